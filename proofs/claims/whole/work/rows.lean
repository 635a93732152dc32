section
-- ===== PART A: goes FIRST, ahead of the names: the tables' words, and 'selects' of the private methods out of them =====
/-- a private method of a class that the tables say can be made, by its rows of tables_1 -/
def lw_okq (q : MethodName × Nat) : Prop := (q.1.cls ≠ "java/lang/invoke/MethodHandle" ∧ q.1.cls ≠ "java/lang/invoke/VarHandle") ∧ Cond.instantiable q.1.cls q.2 ∈ tables_1 ∧ Cond.privateMethod q.1 ∈ tables_1 ∧ Cond.instanceMethod q.1 ∈ tables_1
theorem lw_p0 : lw_okq (⟨"java/lang/Throwable", "fillInStackTrace", "(I)Ljava/lang/Throwable;"⟩, 6) := ⟨⟨by decide +kernel, by decide +kernel⟩, List.mem_of_getElem? (i := 238) (by decide +kernel), List.mem_of_getElem? (i := 236) (by decide +kernel), List.mem_of_getElem? (i := 237) (by decide +kernel)⟩
theorem lw_p1 : lw_okq (⟨"CashAllocator", "payNamedBills", "(II)V"⟩, 4) := ⟨⟨by decide +kernel, by decide +kernel⟩, List.mem_of_getElem? (i := 13) (by decide +kernel), List.mem_of_getElem? (i := 324) (by decide +kernel), List.mem_of_getElem? (i := 325) (by decide +kernel)⟩
theorem lw_p2 : lw_okq (⟨"CashAllocator", "payBill", "(II)Z"⟩, 4) := ⟨⟨by decide +kernel, by decide +kernel⟩, List.mem_of_getElem? (i := 13) (by decide +kernel), List.mem_of_getElem? (i := 340) (by decide +kernel), List.mem_of_getElem? (i := 341) (by decide +kernel)⟩
theorem lw_p3 : lw_okq (⟨"CashAllocator", "payOtherBills", "(I)V"⟩, 4) := ⟨⟨by decide +kernel, by decide +kernel⟩, List.mem_of_getElem? (i := 13) (by decide +kernel), List.mem_of_getElem? (i := 367) (by decide +kernel), List.mem_of_getElem? (i := 368) (by decide +kernel)⟩
theorem lw_p4 : lw_okq (⟨"CashAllocator", "payExactSet", "(I)V"⟩, 4) := ⟨⟨by decide +kernel, by decide +kernel⟩, List.mem_of_getElem? (i := 13) (by decide +kernel), List.mem_of_getElem? (i := 371) (by decide +kernel), List.mem_of_getElem? (i := 372) (by decide +kernel)⟩
theorem lw_p5 : lw_okq (⟨"CashAllocator", "chooseExactSet", "(II)V"⟩, 4) := ⟨⟨by decide +kernel, by decide +kernel⟩, List.mem_of_getElem? (i := 13) (by decide +kernel), List.mem_of_getElem? (i := 375) (by decide +kernel), List.mem_of_getElem? (i := 376) (by decide +kernel)⟩
theorem lw_p6 : lw_okq (⟨"CashAllocator$ExactSet", "chooseOne", "(I)Z"⟩, 4) := ⟨⟨by decide +kernel, by decide +kernel⟩, List.mem_of_getElem? (i := 114) (by decide +kernel), List.mem_of_getElem? (i := 391) (by decide +kernel), List.mem_of_getElem? (i := 392) (by decide +kernel)⟩
theorem lw_p7 : lw_okq (⟨"CashAllocator$ExactSet", "find", "(II)I"⟩, 4) := ⟨⟨by decide +kernel, by decide +kernel⟩, List.mem_of_getElem? (i := 114) (by decide +kernel), List.mem_of_getElem? (i := 395) (by decide +kernel), List.mem_of_getElem? (i := 396) (by decide +kernel)⟩
theorem lw_p8 : lw_okq (⟨"CashAllocator$ExactSet", "chooseTwo", "(I)Z"⟩, 4) := ⟨⟨by decide +kernel, by decide +kernel⟩, List.mem_of_getElem? (i := 114) (by decide +kernel), List.mem_of_getElem? (i := 399) (by decide +kernel), List.mem_of_getElem? (i := 400) (by decide +kernel)⟩
theorem lw_p9 : lw_okq (⟨"CashAllocator$ExactSet", "chooseThree", "(I)V"⟩, 4) := ⟨⟨by decide +kernel, by decide +kernel⟩, List.mem_of_getElem? (i := 114) (by decide +kernel), List.mem_of_getElem? (i := 403) (by decide +kernel), List.mem_of_getElem? (i := 404) (by decide +kernel)⟩
theorem lw_p10 : lw_okq (⟨"CashAllocator", "payOldestBills", "(I)V"⟩, 4) := ⟨⟨by decide +kernel, by decide +kernel⟩, List.mem_of_getElem? (i := 13) (by decide +kernel), List.mem_of_getElem? (i := 407) (by decide +kernel), List.mem_of_getElem? (i := 408) (by decide +kernel)⟩
theorem lw_p11 : lw_okq (⟨"CashAllocator", "requireReceipt", "(I)V"⟩, 4) := ⟨⟨by decide +kernel, by decide +kernel⟩, List.mem_of_getElem? (i := 13) (by decide +kernel), List.mem_of_getElem? (i := 418) (by decide +kernel), List.mem_of_getElem? (i := 419) (by decide +kernel)⟩
theorem lw_p12 : lw_okq (⟨"CashAllocator", "requireNotBounced", "(I)V"⟩, 4) := ⟨⟨by decide +kernel, by decide +kernel⟩, List.mem_of_getElem? (i := 13) (by decide +kernel), List.mem_of_getElem? (i := 423) (by decide +kernel), List.mem_of_getElem? (i := 424) (by decide +kernel)⟩
theorem lw_p13 : lw_okq (⟨"CashAllocator", "requireBill", "(I)V"⟩, 4) := ⟨⟨by decide +kernel, by decide +kernel⟩, List.mem_of_getElem? (i := 13) (by decide +kernel), List.mem_of_getElem? (i := 488) (by decide +kernel), List.mem_of_getElem? (i := 489) (by decide +kernel)⟩
theorem lw_p14 : lw_okq (⟨"CashAllocatorModel", "refused", "(I)Z"⟩, 24) := ⟨⟨by decide +kernel, by decide +kernel⟩, List.mem_of_getElem? (i := 589) (by decide +kernel), List.mem_of_getElem? (i := 683) (by decide +kernel), List.mem_of_getElem? (i := 684) (by decide +kernel)⟩
theorem lw_p15 : lw_okq (⟨"CashAllocatorModel", "payNamed", "(II)V"⟩, 24) := ⟨⟨by decide +kernel, by decide +kernel⟩, List.mem_of_getElem? (i := 589) (by decide +kernel), List.mem_of_getElem? (i := 691) (by decide +kernel), List.mem_of_getElem? (i := 692) (by decide +kernel)⟩
def lw_privs_1 : List (MethodName × Nat) := [(⟨"java/lang/Throwable", "fillInStackTrace", "(I)Ljava/lang/Throwable;"⟩, 6), (⟨"CashAllocator", "payNamedBills", "(II)V"⟩, 4), (⟨"CashAllocator", "payBill", "(II)Z"⟩, 4), (⟨"CashAllocator", "payOtherBills", "(I)V"⟩, 4), (⟨"CashAllocator", "payExactSet", "(I)V"⟩, 4), (⟨"CashAllocator", "chooseExactSet", "(II)V"⟩, 4), (⟨"CashAllocator$ExactSet", "chooseOne", "(I)Z"⟩, 4), (⟨"CashAllocator$ExactSet", "find", "(II)I"⟩, 4), (⟨"CashAllocator$ExactSet", "chooseTwo", "(I)Z"⟩, 4), (⟨"CashAllocator$ExactSet", "chooseThree", "(I)V"⟩, 4), (⟨"CashAllocator", "payOldestBills", "(I)V"⟩, 4), (⟨"CashAllocator", "requireReceipt", "(I)V"⟩, 4), (⟨"CashAllocator", "requireNotBounced", "(I)V"⟩, 4), (⟨"CashAllocator", "requireBill", "(I)V"⟩, 4), (⟨"CashAllocatorModel", "refused", "(I)Z"⟩, 24), (⟨"CashAllocatorModel", "payNamed", "(II)V"⟩, 24)]
theorem lw_r1 : ∀ q ∈ lw_privs_1, lw_okq q := List.forall_mem_cons.mpr ⟨lw_p0, List.forall_mem_cons.mpr ⟨lw_p1, List.forall_mem_cons.mpr ⟨lw_p2, List.forall_mem_cons.mpr ⟨lw_p3, List.forall_mem_cons.mpr ⟨lw_p4, List.forall_mem_cons.mpr ⟨lw_p5, List.forall_mem_cons.mpr ⟨lw_p6, List.forall_mem_cons.mpr ⟨lw_p7, List.forall_mem_cons.mpr ⟨lw_p8, List.forall_mem_cons.mpr ⟨lw_p9, List.forall_mem_cons.mpr ⟨lw_p10, List.forall_mem_cons.mpr ⟨lw_p11, List.forall_mem_cons.mpr ⟨lw_p12, List.forall_mem_cons.mpr ⟨lw_p13, List.forall_mem_cons.mpr ⟨lw_p14, List.forall_mem_cons.mpr ⟨lw_p15, fun _ h => absurd h List.not_mem_nil⟩⟩⟩⟩⟩⟩⟩⟩⟩⟩⟩⟩⟩⟩⟩⟩
theorem lw_p16 : lw_okq (⟨"CashAllocatorModel", "openNow", "(I)I"⟩, 24) := ⟨⟨by decide +kernel, by decide +kernel⟩, List.mem_of_getElem? (i := 589) (by decide +kernel), List.mem_of_getElem? (i := 695) (by decide +kernel), List.mem_of_getElem? (i := 696) (by decide +kernel)⟩
theorem lw_p17 : lw_okq (⟨"CashAllocatorModel", "pay", "(II)Z"⟩, 24) := ⟨⟨by decide +kernel, by decide +kernel⟩, List.mem_of_getElem? (i := 589) (by decide +kernel), List.mem_of_getElem? (i := 699) (by decide +kernel), List.mem_of_getElem? (i := 700) (by decide +kernel)⟩
theorem lw_p18 : lw_okq (⟨"CashAllocatorModel", "dueNow", "(I)I"⟩, 24) := ⟨⟨by decide +kernel, by decide +kernel⟩, List.mem_of_getElem? (i := 589) (by decide +kernel), List.mem_of_getElem? (i := 703) (by decide +kernel), List.mem_of_getElem? (i := 704) (by decide +kernel)⟩
theorem lw_p19 : lw_okq (⟨"CashAllocatorModel", "discount", "(I)I"⟩, 24) := ⟨⟨by decide +kernel, by decide +kernel⟩, List.mem_of_getElem? (i := 589) (by decide +kernel), List.mem_of_getElem? (i := 707) (by decide +kernel), List.mem_of_getElem? (i := 708) (by decide +kernel)⟩
theorem lw_p20 : lw_okq (⟨"CashAllocatorModel", "dispute", "(II)V"⟩, 24) := ⟨⟨by decide +kernel, by decide +kernel⟩, List.mem_of_getElem? (i := 589) (by decide +kernel), List.mem_of_getElem? (i := 712) (by decide +kernel), List.mem_of_getElem? (i := 713) (by decide +kernel)⟩
theorem lw_p21 : lw_okq (⟨"CashAllocatorModel", "payOthers", "(I)V"⟩, 24) := ⟨⟨by decide +kernel, by decide +kernel⟩, List.mem_of_getElem? (i := 589) (by decide +kernel), List.mem_of_getElem? (i := 716) (by decide +kernel), List.mem_of_getElem? (i := 717) (by decide +kernel)⟩
theorem lw_p22 : lw_okq (⟨"CashAllocatorModel", "choose", "(IJ)I"⟩, 24) := ⟨⟨by decide +kernel, by decide +kernel⟩, List.mem_of_getElem? (i := 589) (by decide +kernel), List.mem_of_getElem? (i := 720) (by decide +kernel), List.mem_of_getElem? (i := 721) (by decide +kernel)⟩
theorem lw_p23 : lw_okq (⟨"CashAllocatorModel", "dueOf", "(II)I"⟩, 24) := ⟨⟨by decide +kernel, by decide +kernel⟩, List.mem_of_getElem? (i := 589) (by decide +kernel), List.mem_of_getElem? (i := 724) (by decide +kernel), List.mem_of_getElem? (i := 725) (by decide +kernel)⟩
theorem lw_p24 : lw_okq (⟨"CashAllocatorModel", "isBill", "(I)Z"⟩, 24) := ⟨⟨by decide +kernel, by decide +kernel⟩, List.mem_of_getElem? (i := 589) (by decide +kernel), List.mem_of_getElem? (i := 728) (by decide +kernel), List.mem_of_getElem? (i := 729) (by decide +kernel)⟩
theorem lw_p25 : lw_okq (⟨"CashAllocatorModel", "isReceipt", "(I)Z"⟩, 24) := ⟨⟨by decide +kernel, by decide +kernel⟩, List.mem_of_getElem? (i := 589) (by decide +kernel), List.mem_of_getElem? (i := 736) (by decide +kernel), List.mem_of_getElem? (i := 737) (by decide +kernel)⟩
theorem lw_p26 : lw_okq (⟨"CashAllocatorModel", "fine", "(I)I"⟩, 24) := ⟨⟨by decide +kernel, by decide +kernel⟩, List.mem_of_getElem? (i := 589) (by decide +kernel), List.mem_of_getElem? (i := 764) (by decide +kernel), List.mem_of_getElem? (i := 765) (by decide +kernel)⟩
theorem lw_p27 : lw_okq (⟨"CashAllocatorModel", "noBill", "(I)Z"⟩, 24) := ⟨⟨by decide +kernel, by decide +kernel⟩, List.mem_of_getElem? (i := 589) (by decide +kernel), List.mem_of_getElem? (i := 772) (by decide +kernel), List.mem_of_getElem? (i := 773) (by decide +kernel)⟩
theorem lw_p28 : lw_okq (⟨"CashAllocatorModel", "noReceipt", "(I)Z"⟩, 24) := ⟨⟨by decide +kernel, by decide +kernel⟩, List.mem_of_getElem? (i := 589) (by decide +kernel), List.mem_of_getElem? (i := 812) (by decide +kernel), List.mem_of_getElem? (i := 813) (by decide +kernel)⟩
theorem lw_p29 : lw_okq (⟨"CashAllocatorModel", "all", "([I)I"⟩, 24) := ⟨⟨by decide +kernel, by decide +kernel⟩, List.mem_of_getElem? (i := 589) (by decide +kernel), List.mem_of_getElem? (i := 836) (by decide +kernel), List.mem_of_getElem? (i := 837) (by decide +kernel)⟩
theorem lw_p30 : lw_okq (⟨"CashAllocatorModel", "allBounced", "()I"⟩, 24) := ⟨⟨by decide +kernel, by decide +kernel⟩, List.mem_of_getElem? (i := 589) (by decide +kernel), List.mem_of_getElem? (i := 844) (by decide +kernel), List.mem_of_getElem? (i := 845) (by decide +kernel)⟩
def lw_privs_2 : List (MethodName × Nat) := [(⟨"CashAllocatorModel", "openNow", "(I)I"⟩, 24), (⟨"CashAllocatorModel", "pay", "(II)Z"⟩, 24), (⟨"CashAllocatorModel", "dueNow", "(I)I"⟩, 24), (⟨"CashAllocatorModel", "discount", "(I)I"⟩, 24), (⟨"CashAllocatorModel", "dispute", "(II)V"⟩, 24), (⟨"CashAllocatorModel", "payOthers", "(I)V"⟩, 24), (⟨"CashAllocatorModel", "choose", "(IJ)I"⟩, 24), (⟨"CashAllocatorModel", "dueOf", "(II)I"⟩, 24), (⟨"CashAllocatorModel", "isBill", "(I)Z"⟩, 24), (⟨"CashAllocatorModel", "isReceipt", "(I)Z"⟩, 24), (⟨"CashAllocatorModel", "fine", "(I)I"⟩, 24), (⟨"CashAllocatorModel", "noBill", "(I)Z"⟩, 24), (⟨"CashAllocatorModel", "noReceipt", "(I)Z"⟩, 24), (⟨"CashAllocatorModel", "all", "([I)I"⟩, 24), (⟨"CashAllocatorModel", "allBounced", "()I"⟩, 24)]
theorem lw_r2 : ∀ q ∈ lw_privs_2, lw_okq q := List.forall_mem_cons.mpr ⟨lw_p16, List.forall_mem_cons.mpr ⟨lw_p17, List.forall_mem_cons.mpr ⟨lw_p18, List.forall_mem_cons.mpr ⟨lw_p19, List.forall_mem_cons.mpr ⟨lw_p20, List.forall_mem_cons.mpr ⟨lw_p21, List.forall_mem_cons.mpr ⟨lw_p22, List.forall_mem_cons.mpr ⟨lw_p23, List.forall_mem_cons.mpr ⟨lw_p24, List.forall_mem_cons.mpr ⟨lw_p25, List.forall_mem_cons.mpr ⟨lw_p26, List.forall_mem_cons.mpr ⟨lw_p27, List.forall_mem_cons.mpr ⟨lw_p28, List.forall_mem_cons.mpr ⟨lw_p29, List.forall_mem_cons.mpr ⟨lw_p30, fun _ h => absurd h List.not_mem_nil⟩⟩⟩⟩⟩⟩⟩⟩⟩⟩⟩⟩⟩⟩⟩
def lw_privs : List (MethodName × Nat) := lw_privs_1 ++ (lw_privs_2)
def lw_tbl : List Cond := k2_sels lw_privs ++ tables_1
theorem lw_privs_ok : ∀ q ∈ lw_privs, lw_okq q := by
  show ∀ q ∈ lw_privs_1 ++ (lw_privs_2), lw_okq q
  exact List.forall_mem_append.mpr ⟨lw_r1, lw_r2⟩
end
section
/-! ===== BEGIN words of one list among another's, by their places ===== -/
theorem goodIn_r {big : List Cond} (ws : List Cond) (ps : List Nat) (hp : ws = ps.filterMap (fun i => big[i]?)) (h : ws.all goodWord = true) : GoodIn big ws := by
  intro w hw
  have h1 := List.all_eq_true.mp h w hw
  rw [hp] at hw
  obtain ⟨i, -, hi⟩ := List.mem_filterMap.mp hw
  have hm : w ∈ big := by first | exact List.mem_of_getElem? hi | exact List.getElem?_mem hi
  exact ⟨hm, good_of_word h1⟩
theorem goodIn_app {big a b : List Cond} (ha : GoodIn big a) (hb : GoodIn big b) : GoodIn big (a ++ b) := fun w h => (List.mem_append.mp h).elim (ha w) (hb w)
theorem goodIn_ca {big a b : List Cond} {c : Cond} (ha : GoodIn big (c :: a)) (hb : GoodIn big b) : GoodIn big (c :: (a ++ b)) := fun w h => (List.mem_cons.mp h).elim (fun e => ha w (List.mem_cons.mpr (Or.inl e))) (fun h => (List.mem_append.mp h).elim (fun h => ha w (List.mem_cons.mpr (Or.inr h))) (hb w))
theorem goodIn_sub {big ws : List Cond} (hm : ∀ w ∈ ws, w ∈ big) (h : ws.all goodWord = true) : GoodIn big ws := fun w hw => ⟨hm w hw, good_of_word (List.all_eq_true.mp h w hw)⟩
/-! ===== END ===== -/

/-! ===== BEGIN exceptions that leave a method, and their catching by the caller (launches without stack traces) ===== -/
section VXA
/-! The laws vx_back, vx_callV, vx_callS, vx_callSW, vx_throw0, vx_throwS follow proofs of the library, with one case more: JvmDerived/Free/Laws.lean (Back.of_free), Shelf42/LK1.lean (callV, callS), Shelf/KitTraced.lean (throwNew0V, throwNewS). -/
/-- where a method has thrown q: the class by its name, the cell, what was written, the world -/
def vx_T (XC : String → State → State → Prop) (st : State) (q : Addr) (t : State) (mc ms : Nat) (free : Addr → Prop) : Prop :=
  ∃ (E : String) (ce : Cell) (L : List Loc), XC E st t ∧ t.heap[q]? = some ce ∧ ce.vm = .none ∧ st.vm.findClass E = some ce.cls ∧ st.WarmedH t.vm ∧ st.sameButNew ({ t with vm := st.vm } : State) L mc ms ∧ ∀ z ∈ L, free z.base
def vx_Q (Qc : Array Value → State → Outcome → State → Prop) (XC : String → State → State → Prop) (mc ms : Nat) (free : Addr → Prop) : Array Value → State → Outcome → State → Prop := fun a st o t =>
  (Qc a st o t ∧ ∃ L, FrameEnd st o t L mc ms ∧ ∀ q ∈ L, free q.base) ∨ ∃ q, o = .threw q ∧ vx_T XC st q t mc ms free
/-- a callee that returns or throws -/
def vx_Met (l : Launch) (y : MethodName) (ws : List Cond) (rm : Room) (Pc : Array Value → State → Prop) (Qc : Array Value → State → Outcome → State → Prop) (XC : String → State → State → Prop) (mc ms : Nat) (free : Addr → Prop) : Prop :=
  MetFree l y (headSpec ws rm) Pc (fun _ _ _ _ _ => True) (vx_Q Qc XC mc ms free)
def vx_Post (XC : String → State → State → Prop) (mc ms : Nat) (free : Addr → Prop) : Pt → Array Value → Addr → Pt → Prop := fun A a q B =>
  ∃ (g : JFrame) (mk : MethodId) (t : State) (L : List Loc) (E : String) (ce : Cell), B.U.heap = t.heap ∧ B.U.vm = t.vm ∧ XC E (A.U.calling g mk a) t ∧ t.heap[q]? = some ce ∧ ce.vm = .none ∧ A.U.vm.findClass E = some ce.cls ∧ B.locs = A.locs ++ L ∧ (∀ z ∈ L, free z.base) ∧ B.cells = A.cells + mc ∧ B.slots = A.slots + ms
def vx_Back (l : Launch) (R : Room) (p : Program) (e : Env) (below : List Frame) (s : State) (sargs : Array Value) (y : MethodName) (len W9 : Nat)
    (Pre : Pt → Array Value → Prop) (Post : Pt → Array Value → Option Value → Pt → Prop) (PostX : Pt → Array Value → Addr → Pt → Prop) : Prop :=
  ∀ (m : MethodId) (meth : Method) (c : Code) (A : Pt) (g : JFrame) (ig : Instr) (mk : MethodId) (a : Array Value),
    Stand p l e R s m sargs below meth c A.U A.locs A.cells A.slots → g.method = m → g.locals.size = c.maxLocals → decode c.code g.pc = .ok (ig, len) →
    2 * g.monitorRoom + (g.stack.map fun v => v.category).sum ≤ W9 → A.U.methodNamed? y = some mk → Pre A a →
    (∃ (v : Option Value) (B : Pt), Stand p l e R s m sargs below meth c B.U B.locs B.cells B.slots ∧ Post A a v B ∧
      Steps p.tables e below (doInvoke e (A.U.setTop g) [] mk a).1 (B.U.setTop { g with pc := g.pc + len, stack := v.toList ++ g.stack })) ∨
    (∃ (q : Addr) (B : Pt), Stand p l e R s m sargs below meth c B.U B.locs B.cells B.slots ∧ PostX A a q B ∧
      Steps p.tables e below (doInvoke e (A.U.setTop g) [] mk a).1 ((B.U.setTop g).pushFrame (.throwing q)))
section Payer
variable {l : Launch} {R : Room} {p : Program} {e : Env} {below : List Frame} {s : State} {sargs : Array Value} {y : MethodName} {len W9 : Nat}
theorem vx_back {ws : List Cond} {rm : Room} {Pc : Array Value → State → Prop} {Qc : Array Value → State → Outcome → State → Prop} {XC : String → State → State → Prop} {mc ms : Nat} {free : Addr → Prop} {bytes : ByteArray} {maxL : Nat} {ret : Option FieldType}
    (hM : vx_Met l y ws rm Pc Qc XC mc ms free) (hblind : FrameBlind Pc) (hrc : rm.cells = mc) (hrs : rm.slots = ms)
    (hframes : rm.frames + 1 ≤ R.frames) (hlocals : W9 + (maxL + 11) + rm.locals ≤ R.locals)
    (hws : ∀ w ∈ ws, ∀ a' U, s.WarmedH U.vm → w.before a' U = true) (hcode : Cond.code y bytes maxL ret ∈ ws) (hinit : ∀ a' U, s.WarmedH U.vm → (Cond.initialized y.cls).before a' U = true) :
    vx_Back l R p e below s sargs y len W9 (PreOf R mc ms Pc) (PostOf Qc mc ms free) (vx_Post XC mc ms free) := by
  intro m meth c A g ig mk a X hg hsize hdg hW hn hp
  have h1 : (headSpec ws rm).pre.before a A.U = true := atoms_intro fun w hw => hws w hw _ _ X.warmed
  have h2 : (Cond.code y bytes maxL ret).before a A.U = true := hws _ hcode _ _ X.warmed
  have h3 : (Cond.initialized y.cls).before a A.U = true := hinit _ _ X.warmed
  have h4 : A.cells + (headSpec ws rm).room.cells ≤ R.cells := by rw [show (headSpec ws rm).room.cells = mc from hrc]; exact hp.1
  have h5 : A.slots + (headSpec ws rm).room.slots ≤ R.slots := by rw [show (headSpec ws rm).room.slots = ms from hrs]; exact hp.2.1
  have hPc : Pc a (A.U.calling g mk a) := hblind _ _ _ _ hp.2.2
  obtain ⟨U, Ls, c0, s0⟩ := A
  dsimp only [Pt.U, Pt.locs, Pt.cells, Pt.slots] at h1 h2 h3 h4 h5 X hn hPc ⊢
  obtain ⟨methY, cY, hmY, hcY, -, hlY, -, -, -, -⟩ := Cond.code_spec hn h2
  obtain ⟨kY, hkY, -⟩ := className_of_methodNamed hn
  have hinitY : kY.init = .initialized := Cond.initialized_spec (findClass_of_methodNamed hn) hkY h3
  have h : At U g.method c below := by rw [hg]; exact X.here
  have hlocals9 : W9 + (maxL + 11) + (headSpec ws rm).room.locals ≤ R.locals := hlocals
  have happ : (headSpec ws rm).appliesLoose y e.platform (U.calling g mk a) = true :=
    Spec.appliesLoose_calling (g := g) h hdg hn hkY hinitY
      (X.room_calling (g := g) (R' := (headSpec ws rm).room) hsize hmY hcY hframes (by rw [hlY]; omega) h4 h5) h1
  obtain ⟨mid, hmid⟩ := h.above
  have hfr : (U.setTop g).frames = (.java g :: mid) ++ below := by rw [State.frames_setTop' g h.top, hmid]; rfl
  obtain ⟨o, s₂, hsteps, -, hend, hq⟩ := Steps.callFree hM p X.admits X.cas X.clock (acts := []) hfr happ hPc trivial
  have hq' : vx_Q Qc XC mc ms free a (U.calling g mk a) o s₂ := hq
  rw [State.frames_setTop' g h.top] at hend
  obtain ⟨g₀, hg0⟩ := Option.isSome_iff_exists.mp h.top
  obtain ⟨r, hr⟩ := State.topJava?_eq_some.mp hg0
  have hr' : (({ U with heap := s₂.heap, slotsUsed := s₂.slotsUsed } : State).setVm s₂.vm).frames = .java g₀ :: r := hr
  rcases hq' with ⟨hqc, L, hfe, hL⟩ | ⟨q, rfl, E, ce, L, hx, hce, hcv, hcl, hW₂, hsm, hL⟩
  · obtain ⟨⟨v, rfl⟩, hW₂, e2, q2, q3, q4, q5, q6⟩ := id hfe
    have e3 : s₂ = ({ (U.calling g mk a).setFrames s₂.frames with heap := s₂.heap, slotsUsed := s₂.slotsUsed } : State).setVm s₂.vm := by
      have : s₂ = ({ s₂ with vm := (U.calling g mk a).vm } : State).setVm s₂.vm := rfl
      rw [e2] at this
      exact this
    obtain ⟨c₂, i₂, len₂, hc₂, hd₂, hf₂⟩ := hend
    have hW' : U.WarmedH s₂.vm := hW₂
    have hcc : c₂ = c := by
      have h1 : s₂.code? g.method = U.code? g.method := by
        rw [State.code?_eq, State.code?_eq, hW'.alike.method?]
      exact Option.some.inj (hc₂.symm.trans (h1.trans h.code))
    subst hcc
    have hlen : len₂ = len := by rw [hdg] at hd₂; cases hd₂; rfl
    subst hlen
    have hs₂ : s₂ = (({ U with heap := s₂.heap, slotsUsed := s₂.slotsUsed } : State).setVm s₂.vm).setTop { g with pc := g.pc + len₂, stack := v.toList ++ g.stack } := by
      refine e3.trans ?_
      rw [hf₂, State.calling_eq h.top, State.setFrames_setFrames, State.setTop_of_frames _ hr', hr]
      rfl
    have hsame : U.sameButNew ({ U with heap := s₂.heap, slotsUsed := s₂.slotsUsed } : State) L mc ms := by
      refine ⟨?_, q2, q3, q4, q5, q6⟩
      obtain ⟨t, ht, -⟩ := State.frames_cons hr
      show ({ U with heap := s₂.heap, slotsUsed := s₂.slotsUsed } : State) = { U.setFrames U.frames with heap := s₂.heap, slotsUsed := s₂.slotsUsed }
      rw [State.setFrames_self ht]
    subst hg
    refine Or.inl ⟨v, ⟨(({ U with heap := s₂.heap, slotsUsed := s₂.slotsUsed } : State).setVm s₂.vm), Ls ++ L, c0 + mc, s0 + ms⟩,
      ⟨X.admits, X.cas, X.clock, X.frames, X.room, X.hears, X.method, X.code, (X.here.setHeapUsed s₂.heap s₂.slotsUsed).setVm hW'.alike, X.tail, State.WarmedH.trans X.warmed hW', X.limits, X.bytes, X.same.trans (hsame.setVm s.vm)⟩,
      ⟨g, mk, s₂, L, rfl, rfl, hqc, rfl, hL, rfl, rfl⟩, ?_⟩
    show Steps p.tables e below _ ((({ U with heap := s₂.heap, slotsUsed := s₂.slotsUsed } : State).setVm s₂.vm).setTop { g with pc := g.pc + len₂, stack := v.toList ++ g.stack })
    rw [← hs₂]
    exact hsteps
  · obtain ⟨e2, q2, q3, q4, q5, q6⟩ := id hsm
    have e3 : s₂ = ({ (U.calling g mk a).setFrames s₂.frames with heap := s₂.heap, slotsUsed := s₂.slotsUsed } : State).setVm s₂.vm := by
      have : s₂ = ({ s₂ with vm := (U.calling g mk a).vm } : State).setVm s₂.vm := rfl
      rw [e2] at this
      exact this
    have hf₂ : s₂.frames = .throwing q :: .java g :: U.frames.tail := hend
    have hW' : U.WarmedH s₂.vm := hW₂
    have hs₂ : s₂ = ((({ U with heap := s₂.heap, slotsUsed := s₂.slotsUsed } : State).setVm s₂.vm).setTop g).pushFrame (.throwing q) := by
      refine e3.trans ?_
      rw [hf₂, State.calling_eq h.top, State.setFrames_setFrames, State.pushFrame, State.frames_setTop _ hr', State.setTop_of_frames _ hr', State.setFrames_setFrames, hr]
      rfl
    have hsame : U.sameButNew ({ U with heap := s₂.heap, slotsUsed := s₂.slotsUsed } : State) L mc ms := by
      refine ⟨?_, q2, q3, q4, q5, q6⟩
      obtain ⟨t, ht, -⟩ := State.frames_cons hr
      show ({ U with heap := s₂.heap, slotsUsed := s₂.slotsUsed } : State) = { U.setFrames U.frames with heap := s₂.heap, slotsUsed := s₂.slotsUsed }
      rw [State.setFrames_self ht]
    subst hg
    refine Or.inr ⟨q, ⟨(({ U with heap := s₂.heap, slotsUsed := s₂.slotsUsed } : State).setVm s₂.vm), Ls ++ L, c0 + mc, s0 + ms⟩,
      ⟨X.admits, X.cas, X.clock, X.frames, X.room, X.hears, X.method, X.code, (X.here.setHeapUsed s₂.heap s₂.slotsUsed).setVm hW'.alike, X.tail, State.WarmedH.trans X.warmed hW', X.limits, X.bytes, X.same.trans (hsame.setVm s.vm)⟩,
      ⟨g, mk, s₂, L, E, ce, rfl, rfl, hx, hce, hcv, hcl, rfl, hL, rfl, rfl⟩, ?_⟩
    show Steps p.tables e below _ (((({ U with heap := s₂.heap, slotsUsed := s₂.slotsUsed } : State).setVm s₂.vm).setTop g).pushFrame (.throwing q))
    rw [← hs₂]
    exact hsteps
end Payer
section Calls
variable {p : Program} {l : Launch} {e : Env} {R : Room} {s : State} {m : MethodId} {args : Array Value} {below : List Frame} {meth : Method} {c : Code} {T : State} {locs : List Loc} {cells slots : Nat}
theorem vx_callV (X : Stand p l e R s m args below meth c T locs cells slots) (hexec : p.tables.exec = Jvm.exec) {own C : String} {index : Nat} {y : MethodName} {bytes : ByteArray} {maxL : Nat} {ret : Option FieldType}
    (hown : s.vm.findClass own = some m.cls) (hlink : (Cond.methodLink own index y).before args s = true) (hinst : (Cond.instanceMethod y).before args s = true) (hsel : (Cond.selects C y y).before args s = true)
    (hcode : (Cond.code y bytes maxL ret).before args s = true) (hy : y.cls ≠ "java/lang/invoke/MethodHandle" ∧ y.cls ≠ "java/lang/invoke/VarHandle")
    {W9 : Nat} {Pre : Pt → Array Value → Prop} {Post : Pt → Array Value → Option Value → Pt → Prop} {PostX : Pt → Array Value → Addr → Pt → Prop} (hK : vx_Back l R p e below s args y 3 W9 Pre Post PostX)
    {b : Addr} {cellB : Cell} (hcell : T.heap[b]? = some cellB) (hobj : cellB.vm.isStatics = false) (hcls : s.vm.findClass C = some cellB.cls)
    {g : JFrame} (hg : g.method = m) (hsize : g.locals.size = c.maxLocals) {argsL rest : List Value} (hlen : ∀ sig, parseMethodDescriptor y.desc = some sig → argsL.length = sig.parameters.length)
    (hstack : g.stack = argsL.reverse ++ .ref b :: rest) (hW : 2 * g.monitorRoom + (rest.map fun v => v.category).sum ≤ W9) (hdg : decode c.code g.pc = .ok (.invokevirtual index, 3))
    (hpre : ∀ vm₁, s.WarmedH vm₁ → Pre ⟨T.setVm vm₁, locs, cells, slots⟩ (Value.ref b :: argsL).toArray) :
    (∃ (v : Option Value) (vm₁ : Vm) (B : Pt), s.WarmedH vm₁ ∧ Stand p l e R s m args below meth c B.U B.locs B.cells B.slots ∧ Post ⟨T.setVm vm₁, locs, cells, slots⟩ (Value.ref b :: argsL).toArray v B ∧
      ∀ target, Steps p.tables e below (B.U.setTop { g with pc := g.pc + 3, stack := v.toList ++ rest }) target → Steps p.tables e below (T.setTop g) target) ∨
    (∃ (q : Addr) (vm₁ : Vm) (B : Pt), s.WarmedH vm₁ ∧ Stand p l e R s m args below meth c B.U B.locs B.cells B.slots ∧ PostX ⟨T.setVm vm₁, locs, cells, slots⟩ (Value.ref b :: argsL).toArray q B ∧
      Steps p.tables e below (T.setTop g) ((B.U.setTop { g with stack := rest }).pushFrame (.throwing q))) := by
  obtain ⟨mk, methM, hnamed, hmethM, hstM, habM⟩ := Cond.instanceMethod_spec hinst
  obtain ⟨methM', cM, hmethM', -, -, -, -, -, -, hsigM⟩ := Cond.code_spec hnamed hcode
  cases hmethM.symm.trans hmethM'
  obtain ⟨c2, r2, m2, q1, q2, q3, q4, kP, hkP, hkPi⟩ := Cond.selects_spec hsel
  cases hcls.symm.trans q1
  cases (State.methodFound?_of_named hnamed hy).symm.trans q2
  cases hnamed.symm.trans q3
  have hselP : selectMethod e.platform s.vm cellB.cls mk = .method mk := by rw [Launch.admits_selectMethod X.admits]; exact q4
  obtain ⟨vm₁, X₁, hstep₁⟩ := X.invokevirtual hexec hown hlink hnamed hmethM hstM hkP hkPi hy (a := b) (cell := cellB) hcell
    (fun z h => by rw [h] at hobj; cases hobj) hselP hmethM habM hkP hkPi (g := g) hg (argsL := argsL) (rest := rest) (hlen _ hsigM) hstack hdg
  rcases hK m meth c ⟨T.setVm vm₁, locs, cells, slots⟩ { g with stack := rest } (.invokevirtual index) mk (Value.ref b :: argsL).toArray X₁ hg hsize hdg hW (X₁.named hnamed) (hpre vm₁ X₁.warmed) with ⟨v, B, X', hpost, hsteps⟩ | ⟨q, B, X', hpost, hsteps⟩
  · exact Or.inl ⟨v, vm₁, B, X₁.warmed, X', hpost, fun target h => hstep₁ _ fun acts => by rw [doInvoke_state]; exact hsteps.trans h⟩
  · exact Or.inr ⟨q, vm₁, B, X₁.warmed, X', hpost, hstep₁ _ fun acts => by rw [doInvoke_state]; exact hsteps⟩
theorem vx_callS (X : Stand p l e R s m args below meth c T locs cells slots) (hexec : p.tables.exec = Jvm.exec) {own : String} {index : Nat} {y : MethodName} {bytes : ByteArray} {maxL : Nat} {ret : Option FieldType}
    (hown : s.vm.findClass own = some m.cls) (hlink : (Cond.methodLink own index y).before args s = true) (hstat : (Cond.static y).before args s = true) (hinit : (Cond.initialized y.cls).before args s = true)
    (hcode : (Cond.code y bytes maxL ret).before args s = true) (hy : y.cls ≠ "java/lang/invoke/MethodHandle" ∧ y.cls ≠ "java/lang/invoke/VarHandle")
    {W9 : Nat} {Pre : Pt → Array Value → Prop} {Post : Pt → Array Value → Option Value → Pt → Prop} {PostX : Pt → Array Value → Addr → Pt → Prop} (hK : vx_Back l R p e below s args y 3 W9 Pre Post PostX)
    {g : JFrame} (hg : g.method = m) (hsize : g.locals.size = c.maxLocals) {argsL rest : List Value} (hlen : ∀ sig, parseMethodDescriptor y.desc = some sig → argsL.length = sig.parameters.length)
    (hstack : g.stack = argsL.reverse ++ rest) (hW : 2 * g.monitorRoom + (rest.map fun v => v.category).sum ≤ W9) (hdg : decode c.code g.pc = .ok (.invokestatic index, 3))
    (hpre : ∀ vm₁, s.WarmedH vm₁ → Pre ⟨T.setVm vm₁, locs, cells, slots⟩ argsL.toArray) :
    (∃ (v : Option Value) (vm₁ : Vm) (B : Pt), s.WarmedH vm₁ ∧ Stand p l e R s m args below meth c B.U B.locs B.cells B.slots ∧ Post ⟨T.setVm vm₁, locs, cells, slots⟩ argsL.toArray v B ∧
      ∀ target, Steps p.tables e below (B.U.setTop { g with pc := g.pc + 3, stack := v.toList ++ rest }) target → Steps p.tables e below (T.setTop g) target) ∨
    (∃ (q : Addr) (vm₁ : Vm) (B : Pt), s.WarmedH vm₁ ∧ Stand p l e R s m args below meth c B.U B.locs B.cells B.slots ∧ PostX ⟨T.setVm vm₁, locs, cells, slots⟩ argsL.toArray q B ∧
      Steps p.tables e below (T.setTop g) ((B.U.setTop { g with stack := rest }).pushFrame (.throwing q))) := by
  obtain ⟨mk, hnamed⟩ := Cond.code_named hcode
  obtain ⟨methM, cM, hmethM, -, -, -, -, -, -, hsigM⟩ := Cond.code_spec hnamed hcode
  have hstatic : methM.isStatic = true := Cond.static_spec hnamed hmethM hstat
  obtain ⟨kP, hkP, -⟩ := className_of_methodNamed hnamed
  have hinitP : kP.init = .initialized := Cond.initialized_spec (findClass_of_methodNamed hnamed) hkP hinit
  obtain ⟨vm₁, X₁, hstep₁⟩ := X.invokestatic hexec hown hlink hnamed hmethM hstatic hkP hinitP hy (g := g) hg (argsL := argsL) (rest := rest) (hlen _ hsigM) hstack hdg
  rcases hK m meth c ⟨T.setVm vm₁, locs, cells, slots⟩ { g with stack := rest } (.invokestatic index) mk argsL.toArray X₁ hg hsize hdg hW (X₁.named hnamed) (hpre vm₁ X₁.warmed) with ⟨v, B, X', hpost, hsteps⟩ | ⟨q, B, X', hpost, hsteps⟩
  · exact Or.inl ⟨v, vm₁, B, X₁.warmed, X', hpost, fun target h => hstep₁ _ fun acts => by rw [doInvoke_state]; exact hsteps.trans h⟩
  · exact Or.inr ⟨q, vm₁, B, X₁.warmed, X', hpost, hstep₁ _ fun acts => by rw [doInvoke_state]; exact hsteps⟩
end Calls
theorem vx_cls {s : State} {T : State} {vm₁ : Vm} {E : String} {k : ClassId} (hW : s.WarmedH vm₁) (h : (T.setVm vm₁).vm.findClass E = some k) : s.vm.findClass E = some k := by
  have h1 : vm₁.findClass E = some k := h
  rw [hW.alike.findClass] at h1
  exact h1
/-- the method's frame g, with q thrown over it -/
def vx_W (p : Program) (l : Launch) (e : Env) (R : Room) (s : State) (m : MethodId) (args : Array Value) (below : List Frame) (meth : Method) (c : Code) (H : Heap) (locs : List Loc) (cells slots : Nat) (Q : State → Prop) (g : JFrame) (q : Addr) : Prop :=
  ∀ T : State, T.heap = H → Stand p l e R s m args below meth c T locs cells slots → ∃ t, Steps p.tables e below ((T.setTop g).pushFrame (.throwing q)) t ∧ Q t
def vx_Run (p : Program) (l : Launch) (e : Env) (R : Room) (s : State) (m : MethodId) (args : Array Value) (below : List Frame) (meth : Method) (c : Code) (H : Heap) (locs : List Loc) (cells slots mc ms : Nat) (g : JFrame) (rest : List Value) (Qa : State → Outcome → State → Prop) (XC : String → State → State → Prop) (free : Addr → Prop) : Prop :=
  ∀ T : State, T.heap = H → Stand p l e R s m args below meth c T locs cells slots →
    (∃ (v : Option Value) (st₀ t T' : State) (L : List Loc), st₀.heap = H ∧ Stand p l e R s m args below meth c T' (locs ++ L) (cells + mc) (slots + ms) ∧ (∀ q ∈ L, free q.base) ∧ T'.heap = t.heap ∧ T'.vm = t.vm ∧ Qa st₀ (.returned v) t ∧
      Goes p e below T g T' { g with pc := g.pc + 3, stack := v.toList ++ rest }) ∨
    (∃ (q : Addr) (st₀ t T' : State) (L : List Loc) (E : String) (ce : Cell), st₀.heap = H ∧ Stand p l e R s m args below meth c T' (locs ++ L) (cells + mc) (slots + ms) ∧ (∀ z ∈ L, free z.base) ∧ T'.heap = t.heap ∧ T'.vm = t.vm ∧ XC E st₀ t ∧ t.heap[q]? = some ce ∧ ce.vm = .none ∧ s.vm.findClass E = some ce.cls ∧
      Steps p.tables e below (T.setTop g) ((T'.setTop { g with stack := rest }).pushFrame (.throwing q)))
def vx_X {S : Type} (px : S → Prop) (B : String → S → State → Prop) (A : Nat → Prop) : String → State → State → Prop := fun E st t => ∃ u : S, px u ∧ B E u t ∧ va_F A st t
section Runs
variable {p : Program} {l : Launch} {e : Env} {R : Room} {s : State} {m : MethodId} {args : Array Value} {below : List Frame} {meth : Method} {c : Code} {H : Heap} {locs : List Loc} {cells slots : Nat}
variable {y : MethodName} {bytes cc : ByteArray} {maxL nL mc ms n index : Nat} {ret : Option FieldType} {ws : List Cond} {rm : Room} {Pc : Array Value → State → Prop} {Qc : Array Value → State → Outcome → State → Prop} {XC : String → State → State → Prop} {free : Addr → Prop} {Ts : List Cond} {own C : String} {b : Addr} {As rest : List Value} {g : JFrame}
theorem vx_callBack (cb : CallB R s args own index y bytes maxL ret ws rm mc ms n) (hM : vx_Met l y ws rm Pc Qc XC mc ms free) (hbl : FrameBlind Pc) : vx_Back l R p e below s args y 3 8 (PreOf R mc ms Pc) (PostOf Qc mc ms free) (vx_Post XC mc ms free) := by
  obtain ⟨hrc, hrs, hfr, hlo, hws, hcw, -, hini, -⟩ := cb
  exact vx_back (bytes := bytes) (maxL := maxL) (ret := ret) hM hbl hrc hrs hfr hlo hws hcw (fun a' U hW => word_at hW (Or.inl (by first | rfl | simp [Cond.onTables, Cond.keeps, Cond.steady])) hini)
theorem vx_runV (S : CallFix p m c cc nL s args Ts own) (hM : vx_Met l y ws rm Pc Qc XC mc ms free) (cw : CallW R s args own C index y bytes maxL ret ws rm mc ms n) (hp : PreV s H C b Pc As)
    (hg : g.method = m) (hn : As.length = n) (hsize : g.locals.size = nL) (hstack : g.stack = As.reverse ++ .ref b :: rest) (hW : 2 * g.monitorRoom + (rest.map fun v => v.category).sum ≤ 8) (hdg : decode cc g.pc = .ok (.invokevirtual index, 3)) (hf : cells + mc ≤ R.cells ∧ slots + ms ≤ R.slots) :
    vx_Run p l e R s m args below meth c H locs cells slots mc ms g rest (Qc (Value.ref b :: As).toArray) XC free := by
  have hK : vx_Back l R p e below s args y 3 8 (PreOf R mc ms Pc) (PostOf Qc mc ms free) (vx_Post XC mc ms free) := vx_callBack cw.1 hM hp.1
  obtain ⟨⟨-, -, -, -, -, -, hcode, -, hy, hlen, hl⟩, hin, hse⟩ := cw
  obtain ⟨hx, hb, hml, ho, -⟩ := S
  obtain ⟨-, ⟨cellB, hcB, hoB, hclB⟩, hPc⟩ := hp
  intro T hT X
  rcases vx_callV X hx (C := C) (bytes := bytes) (maxL := maxL) (ret := ret) ho hl hin hse hcode hy hK (by rw [hT]; exact hcB) hoB hclB hg (hsize.trans hml.symm) (argsL := As) (rest := rest) (fun sig h => hn.trans (hlen sig h)) hstack hW (by rw [hb]; exact hdg)
    (fun vm₁ hW₁ => ⟨hf.1, hf.2, hPc (T.setVm vm₁) hT hW₁⟩) with ⟨v, vm₁, ⟨U', l2, c2, s2⟩, hW₁, X', ⟨g', mk, t, L, e1, e2, hq, h1, hL, h2, h3⟩, st⟩ | ⟨q, vm₁, ⟨U', l2, c2, s2⟩, hW₁, X', ⟨g', mk, t, L, E, ce, e1, e2, hq, hce, hcv, hcl, h1, hL, h2, h3⟩, st⟩
  · dsimp only [Pt.U, Pt.locs, Pt.cells, Pt.slots] at X' e1 e2 h1 h2 h3 st
    subst h1; subst h2; subst h3
    exact Or.inl ⟨v, (T.setVm vm₁).calling g' mk (Value.ref b :: As).toArray, t, U', L, hT, X', hL, e1, e2, hq, st⟩
  · dsimp only [Pt.U, Pt.locs, Pt.cells, Pt.slots] at X' e1 e2 h1 h2 h3 st hcl
    subst h1; subst h2; subst h3
    exact Or.inr ⟨q, (T.setVm vm₁).calling g' mk (Value.ref b :: As).toArray, t, U', L, E, ce, hT, X', hL, e1, e2, hq, hce, hcv, vx_cls hW₁ hcl, st⟩
theorem vx_runS (S : CallFix p m c cc nL s args Ts own) (hM : vx_Met l y ws rm Pc Qc XC mc ms free) (cw : CallB R s args own index y bytes maxL ret ws rm mc ms n ∧ (Cond.static y).before args s = true) (hp : PreS s H Pc As)
    (hg : g.method = m) (hn : As.length = n) (hsize : g.locals.size = nL) (hstack : g.stack = As.reverse ++ rest) (hW : 2 * g.monitorRoom + (rest.map fun v => v.category).sum ≤ 8) (hdg : decode cc g.pc = .ok (.invokestatic index, 3)) (hf : cells + mc ≤ R.cells ∧ slots + ms ≤ R.slots) :
    vx_Run p l e R s m args below meth c H locs cells slots mc ms g rest (Qc As.toArray) XC free := by
  have hK : vx_Back l R p e below s args y 3 8 (PreOf R mc ms Pc) (PostOf Qc mc ms free) (vx_Post XC mc ms free) := vx_callBack cw.1 hM hp.1
  obtain ⟨⟨-, -, -, -, -, -, hcode, hini, hy, hlen, hl⟩, hstt⟩ := cw
  obtain ⟨hx, hb, hml, ho, -⟩ := S
  intro T hT X
  rcases vx_callS X hx (bytes := bytes) (maxL := maxL) (ret := ret) ho hl hstt hini hcode hy hK hg (hsize.trans hml.symm) (argsL := As) (rest := rest) (fun sig h => hn.trans (hlen sig h)) hstack hW (by rw [hb]; exact hdg)
    (fun vm₁ hW₁ => ⟨hf.1, hf.2, hp.2 (T.setVm vm₁) hT hW₁⟩) with ⟨v, vm₁, ⟨U', l2, c2, s2⟩, hW₁, X', ⟨g', mk, t, L, e1, e2, hq, h1, hL, h2, h3⟩, st⟩ | ⟨q, vm₁, ⟨U', l2, c2, s2⟩, hW₁, X', ⟨g', mk, t, L, E, ce, e1, e2, hq, hce, hcv, hcl, h1, hL, h2, h3⟩, st⟩
  · dsimp only [Pt.U, Pt.locs, Pt.cells, Pt.slots] at X' e1 e2 h1 h2 h3 st
    subst h1; subst h2; subst h3
    exact Or.inl ⟨v, (T.setVm vm₁).calling g' mk As.toArray, t, U', L, hT, X', hL, e1, e2, hq, st⟩
  · dsimp only [Pt.U, Pt.locs, Pt.cells, Pt.slots] at X' e1 e2 h1 h2 h3 st hcl
    subst h1; subst h2; subst h3
    exact Or.inr ⟨q, (T.setVm vm₁).calling g' mk As.toArray, t, U', L, E, ce, hT, X', hL, e1, e2, hq, hce, hcv, vx_cls hW₁ hcl, st⟩
end Runs
section Rows
variable {p : Program} {l : Launch} {e : Env} {R : Room} {s : State} {m : MethodId} {args : Array Value} {below : List Frame} {meth : Method} {c : Code} {H : Heap} {locs : List Loc} {cells slots : Nat} {Q : State → Prop}
variable {mc ms : Nat} {free : Addr → Prop} {A0 A1 : Nat → Prop} {H0 : Heap} {a : Array Value} {pc : Nat} {ls : Array Slot} {st0 rest : List Value}
theorem vx_keep {st₀ t T' : State} {L : List Loc} (h0 : st₀.heap = H) (e1 : T'.heap = t.heap) (hS : va_S A0 H0 H locs) (hA : ∀ q, q < H.size → A1 q → A0 q) (hf : ∀ q, free q → A0 q) (hL : ∀ q ∈ L, free q.base) (hF : va_F A1 st₀ t) :
    H.size ≤ T'.heap.size ∧ (∀ q : Nat, q < H.size → ¬ A1 q → T'.heap[q]? = H[q]?) ∧ va_S A0 H0 T'.heap (locs ++ L) := by
  obtain ⟨hz, hk⟩ := hF
  rw [h0] at hz hk
  exact ⟨by rw [e1]; exact hz, fun q h1 h2 => by rw [e1]; exact hk q h1 h2,
    ⟨Nat.le_trans hS.1 (by rw [e1]; exact hz), fun q h1 h2 => by rw [e1, hk q (Nat.lt_of_lt_of_le h1 hS.1) (fun z => h2 (hA q (Nat.lt_of_lt_of_le h1 hS.1) z))]; exact hS.2.1 q h1 h2, fun q hq => by
      rcases List.mem_append.mp hq with h | h
      · exact hS.2.2 q h
      · exact hf _ (hL q h)⟩⟩
theorem vx_calli {S SX : Type} {post : Int32 → S → Prop} {px : SX → Prop} {B : S → State → Prop} {BX : String → SX → State → Prop} {AX : Nat → Prop} (hr : vx_Run p l e R s m args below meth c H locs cells slots mc ms (F0 m pc ls st0) rest (va_Qi post B A1 a) (vx_X px BX AX) free) (hS : va_S A0 H0 H locs) (hA : ∀ q, q < H.size → A1 q → A0 q) (hf : ∀ q, free q → A0 q) (hAX : ∀ q, q < H.size → AX q → A0 q)
    (kx : ∀ (E : String) (ce : Cell) (q9 : Addr) (u : SX) (t : State) (H1 : Heap) (locs1 : List Loc), t.heap = H1 → s.vm.Alike t.vm → px u → BX E u t → H.size ≤ H1.size → (∀ q : Nat, q < H.size → ¬ AX q → H1[q]? = H[q]?) → va_S A0 H0 H1 locs1 → H1[q9]? = some ce → ce.vm = .none → s.vm.findClass E = some ce.cls → vx_W p l e R s m args below meth c H1 locs1 (cells + mc) (slots + ms) Q (F0 m pc ls rest) q9)
    (kk : ∀ (r : Int32) (u : S) (t : State) (H1 : Heap) (locs1 : List Loc), t.heap = H1 → s.vm.Alike t.vm → post r u → B u t → H.size ≤ H1.size → (∀ q : Nat, q < H.size → ¬ A1 q → H1[q]? = H[q]?) → va_S A0 H0 H1 locs1 → W p l e R s m args below meth c H1 locs1 (cells + mc) (slots + ms) Q (F0 m (pc + 3) ls (.int r :: rest))) : W p l e R s m args below meth c H locs cells slots Q (F0 m pc ls st0) := by
  intro T hT X
  rcases hr T hT X with ⟨v, st₀, t, T', L, h0, X', hL, e1, e2, ⟨⟨r, u, hv, hp, hb⟩, hF⟩, st⟩ | ⟨q, st₀, t, T', L, E, ce, h0, X', hL, e1, e2, ⟨u, hp, hb, hF⟩, hce, hcv, hcl, st⟩
  · cases hv
    obtain ⟨k1, k2, k3⟩ := vx_keep h0 e1 hS hA hf hL hF
    obtain ⟨t2, a1, b1⟩ := kk r u t T'.heap (locs ++ L) e1.symm (by rw [← e2]; exact X'.warmed.alike) hp hb k1 k2 k3 T' rfl X'
    exact ⟨t2, st t2 a1, b1⟩
  · obtain ⟨k1, k2, k3⟩ := vx_keep h0 e1 hS hAX hf hL hF
    obtain ⟨t2, a1, b1⟩ := kx E ce q u t T'.heap (locs ++ L) e1.symm (by rw [← e2]; exact X'.warmed.alike) hp hb k1 k2 k3 (by rw [e1]; exact hce) hcv hcl T' rfl X'
    exact ⟨t2, st.trans a1, b1⟩
theorem vx_calll {S SX : Type} {post : Int64 → S → Prop} {px : SX → Prop} {B : S → State → Prop} {BX : String → SX → State → Prop} {AX : Nat → Prop} (hr : vx_Run p l e R s m args below meth c H locs cells slots mc ms (F0 m pc ls st0) rest (va_Ql post B A1 a) (vx_X px BX AX) free) (hS : va_S A0 H0 H locs) (hA : ∀ q, q < H.size → A1 q → A0 q) (hf : ∀ q, free q → A0 q) (hAX : ∀ q, q < H.size → AX q → A0 q)
    (kx : ∀ (E : String) (ce : Cell) (q9 : Addr) (u : SX) (t : State) (H1 : Heap) (locs1 : List Loc), t.heap = H1 → s.vm.Alike t.vm → px u → BX E u t → H.size ≤ H1.size → (∀ q : Nat, q < H.size → ¬ AX q → H1[q]? = H[q]?) → va_S A0 H0 H1 locs1 → H1[q9]? = some ce → ce.vm = .none → s.vm.findClass E = some ce.cls → vx_W p l e R s m args below meth c H1 locs1 (cells + mc) (slots + ms) Q (F0 m pc ls rest) q9)
    (kk : ∀ (r : Int64) (u : S) (t : State) (H1 : Heap) (locs1 : List Loc), t.heap = H1 → s.vm.Alike t.vm → post r u → B u t → H.size ≤ H1.size → (∀ q : Nat, q < H.size → ¬ A1 q → H1[q]? = H[q]?) → va_S A0 H0 H1 locs1 → W p l e R s m args below meth c H1 locs1 (cells + mc) (slots + ms) Q (F0 m (pc + 3) ls (.long r :: rest))) : W p l e R s m args below meth c H locs cells slots Q (F0 m pc ls st0) := by
  intro T hT X
  rcases hr T hT X with ⟨v, st₀, t, T', L, h0, X', hL, e1, e2, ⟨⟨r, u, hv, hp, hb⟩, hF⟩, st⟩ | ⟨q, st₀, t, T', L, E, ce, h0, X', hL, e1, e2, ⟨u, hp, hb, hF⟩, hce, hcv, hcl, st⟩
  · cases hv
    obtain ⟨k1, k2, k3⟩ := vx_keep h0 e1 hS hA hf hL hF
    obtain ⟨t2, a1, b1⟩ := kk r u t T'.heap (locs ++ L) e1.symm (by rw [← e2]; exact X'.warmed.alike) hp hb k1 k2 k3 T' rfl X'
    exact ⟨t2, st t2 a1, b1⟩
  · obtain ⟨k1, k2, k3⟩ := vx_keep h0 e1 hS hAX hf hL hF
    obtain ⟨t2, a1, b1⟩ := kx E ce q u t T'.heap (locs ++ L) e1.symm (by rw [← e2]; exact X'.warmed.alike) hp hb k1 k2 k3 (by rw [e1]; exact hce) hcv hcl T' rfl X'
    exact ⟨t2, st.trans a1, b1⟩
theorem vx_callf {S SX : Type} {post : UInt32 → S → Prop} {px : SX → Prop} {B : S → State → Prop} {BX : String → SX → State → Prop} {AX : Nat → Prop} (hr : vx_Run p l e R s m args below meth c H locs cells slots mc ms (F0 m pc ls st0) rest (va_Qf post B A1 a) (vx_X px BX AX) free) (hS : va_S A0 H0 H locs) (hA : ∀ q, q < H.size → A1 q → A0 q) (hf : ∀ q, free q → A0 q) (hAX : ∀ q, q < H.size → AX q → A0 q)
    (kx : ∀ (E : String) (ce : Cell) (q9 : Addr) (u : SX) (t : State) (H1 : Heap) (locs1 : List Loc), t.heap = H1 → s.vm.Alike t.vm → px u → BX E u t → H.size ≤ H1.size → (∀ q : Nat, q < H.size → ¬ AX q → H1[q]? = H[q]?) → va_S A0 H0 H1 locs1 → H1[q9]? = some ce → ce.vm = .none → s.vm.findClass E = some ce.cls → vx_W p l e R s m args below meth c H1 locs1 (cells + mc) (slots + ms) Q (F0 m pc ls rest) q9)
    (kk : ∀ (r : UInt32) (u : S) (t : State) (H1 : Heap) (locs1 : List Loc), t.heap = H1 → s.vm.Alike t.vm → post r u → B u t → H.size ≤ H1.size → (∀ q : Nat, q < H.size → ¬ A1 q → H1[q]? = H[q]?) → va_S A0 H0 H1 locs1 → W p l e R s m args below meth c H1 locs1 (cells + mc) (slots + ms) Q (F0 m (pc + 3) ls (.float r :: rest))) : W p l e R s m args below meth c H locs cells slots Q (F0 m pc ls st0) := by
  intro T hT X
  rcases hr T hT X with ⟨v, st₀, t, T', L, h0, X', hL, e1, e2, ⟨⟨r, u, hv, hp, hb⟩, hF⟩, st⟩ | ⟨q, st₀, t, T', L, E, ce, h0, X', hL, e1, e2, ⟨u, hp, hb, hF⟩, hce, hcv, hcl, st⟩
  · cases hv
    obtain ⟨k1, k2, k3⟩ := vx_keep h0 e1 hS hA hf hL hF
    obtain ⟨t2, a1, b1⟩ := kk r u t T'.heap (locs ++ L) e1.symm (by rw [← e2]; exact X'.warmed.alike) hp hb k1 k2 k3 T' rfl X'
    exact ⟨t2, st t2 a1, b1⟩
  · obtain ⟨k1, k2, k3⟩ := vx_keep h0 e1 hS hAX hf hL hF
    obtain ⟨t2, a1, b1⟩ := kx E ce q u t T'.heap (locs ++ L) e1.symm (by rw [← e2]; exact X'.warmed.alike) hp hb k1 k2 k3 (by rw [e1]; exact hce) hcv hcl T' rfl X'
    exact ⟨t2, st.trans a1, b1⟩
theorem vx_calld {S SX : Type} {post : UInt64 → S → Prop} {px : SX → Prop} {B : S → State → Prop} {BX : String → SX → State → Prop} {AX : Nat → Prop} (hr : vx_Run p l e R s m args below meth c H locs cells slots mc ms (F0 m pc ls st0) rest (va_Qd post B A1 a) (vx_X px BX AX) free) (hS : va_S A0 H0 H locs) (hA : ∀ q, q < H.size → A1 q → A0 q) (hf : ∀ q, free q → A0 q) (hAX : ∀ q, q < H.size → AX q → A0 q)
    (kx : ∀ (E : String) (ce : Cell) (q9 : Addr) (u : SX) (t : State) (H1 : Heap) (locs1 : List Loc), t.heap = H1 → s.vm.Alike t.vm → px u → BX E u t → H.size ≤ H1.size → (∀ q : Nat, q < H.size → ¬ AX q → H1[q]? = H[q]?) → va_S A0 H0 H1 locs1 → H1[q9]? = some ce → ce.vm = .none → s.vm.findClass E = some ce.cls → vx_W p l e R s m args below meth c H1 locs1 (cells + mc) (slots + ms) Q (F0 m pc ls rest) q9)
    (kk : ∀ (r : UInt64) (u : S) (t : State) (H1 : Heap) (locs1 : List Loc), t.heap = H1 → s.vm.Alike t.vm → post r u → B u t → H.size ≤ H1.size → (∀ q : Nat, q < H.size → ¬ A1 q → H1[q]? = H[q]?) → va_S A0 H0 H1 locs1 → W p l e R s m args below meth c H1 locs1 (cells + mc) (slots + ms) Q (F0 m (pc + 3) ls (.double r :: rest))) : W p l e R s m args below meth c H locs cells slots Q (F0 m pc ls st0) := by
  intro T hT X
  rcases hr T hT X with ⟨v, st₀, t, T', L, h0, X', hL, e1, e2, ⟨⟨r, u, hv, hp, hb⟩, hF⟩, st⟩ | ⟨q, st₀, t, T', L, E, ce, h0, X', hL, e1, e2, ⟨u, hp, hb, hF⟩, hce, hcv, hcl, st⟩
  · cases hv
    obtain ⟨k1, k2, k3⟩ := vx_keep h0 e1 hS hA hf hL hF
    obtain ⟨t2, a1, b1⟩ := kk r u t T'.heap (locs ++ L) e1.symm (by rw [← e2]; exact X'.warmed.alike) hp hb k1 k2 k3 T' rfl X'
    exact ⟨t2, st t2 a1, b1⟩
  · obtain ⟨k1, k2, k3⟩ := vx_keep h0 e1 hS hAX hf hL hF
    obtain ⟨t2, a1, b1⟩ := kx E ce q u t T'.heap (locs ++ L) e1.symm (by rw [← e2]; exact X'.warmed.alike) hp hb k1 k2 k3 (by rw [e1]; exact hce) hcv hcl T' rfl X'
    exact ⟨t2, st.trans a1, b1⟩
theorem vx_callv {S SX : Type} {post : S → Prop} {px : SX → Prop} {B : S → State → Prop} {BX : String → SX → State → Prop} {AX : Nat → Prop} (hr : vx_Run p l e R s m args below meth c H locs cells slots mc ms (F0 m pc ls st0) rest (va_Qv post B A1 a) (vx_X px BX AX) free) (hS : va_S A0 H0 H locs) (hA : ∀ q, q < H.size → A1 q → A0 q) (hf : ∀ q, free q → A0 q) (hAX : ∀ q, q < H.size → AX q → A0 q)
    (kx : ∀ (E : String) (ce : Cell) (q9 : Addr) (u : SX) (t : State) (H1 : Heap) (locs1 : List Loc), t.heap = H1 → s.vm.Alike t.vm → px u → BX E u t → H.size ≤ H1.size → (∀ q : Nat, q < H.size → ¬ AX q → H1[q]? = H[q]?) → va_S A0 H0 H1 locs1 → H1[q9]? = some ce → ce.vm = .none → s.vm.findClass E = some ce.cls → vx_W p l e R s m args below meth c H1 locs1 (cells + mc) (slots + ms) Q (F0 m pc ls rest) q9)
    (kk : ∀ (u : S) (t : State) (H1 : Heap) (locs1 : List Loc), t.heap = H1 → s.vm.Alike t.vm → post u → B u t → H.size ≤ H1.size → (∀ q : Nat, q < H.size → ¬ A1 q → H1[q]? = H[q]?) → va_S A0 H0 H1 locs1 → W p l e R s m args below meth c H1 locs1 (cells + mc) (slots + ms) Q (F0 m (pc + 3) ls (rest))) : W p l e R s m args below meth c H locs cells slots Q (F0 m pc ls st0) := by
  intro T hT X
  rcases hr T hT X with ⟨v, st₀, t, T', L, h0, X', hL, e1, e2, ⟨⟨u, hv, hp, hb⟩, hF⟩, st⟩ | ⟨q, st₀, t, T', L, E, ce, h0, X', hL, e1, e2, ⟨u, hp, hb, hF⟩, hce, hcv, hcl, st⟩
  · cases hv
    obtain ⟨k1, k2, k3⟩ := vx_keep h0 e1 hS hA hf hL hF
    obtain ⟨t2, a1, b1⟩ := kk u t T'.heap (locs ++ L) e1.symm (by rw [← e2]; exact X'.warmed.alike) hp hb k1 k2 k3 T' rfl X'
    exact ⟨t2, st t2 a1, b1⟩
  · obtain ⟨k1, k2, k3⟩ := vx_keep h0 e1 hS hAX hf hL hF
    obtain ⟨t2, a1, b1⟩ := kx E ce q u t T'.heap (locs ++ L) e1.symm (by rw [← e2]; exact X'.warmed.alike) hp hb k1 k2 k3 (by rw [e1]; exact hce) hcv hcl T' rfl X'
    exact ⟨t2, st.trans a1, b1⟩
/-- caught by the row x of this method's table; the rows ahead don't take it -/
theorem vx_catch {own name : String} {E : String} {ce : Cell} {q : Addr} (hown : s.vm.findClass own = some m.cls) (pre : List ExceptionTableEntry) (x : ExceptionTableEntry) (suf : List ExceptionTableEntry) (hsplit : c.exceptionTable.toList = pre ++ x :: suf)
    (hpass : ∀ z ∈ pre, covers z pc = false ∨ (z.catchType ≠ 0 ∧ ∃ nm : String, (Cond.classLink own z.catchType nm).before args s = true ∧ va_Nc E nm s)) (hx : covers x pc = true) (h0 : x.catchType ≠ 0)
    (hlink : (Cond.classLink own x.catchType name).before args s = true) (hcast : (Cond.castable E name).before args s = true) (hcell : H[q]? = some ce) (hv : ce.vm = .none) (hcl : s.vm.findClass E = some ce.cls)
    (kk : W p l e R s m args below meth c H locs cells slots Q (F0 m x.handlerPc ls [.ref q])) : vx_W p l e R s m args below meth c H locs cells slots Q (F0 m pc ls rest) q := by
  intro T hT X
  have hpl : e.platform.magicAccessors = ({} : Platform).magicAccessors := by rw [X.admits.platform]
  obtain ⟨c3, c4, hc3, hc4, hasg⟩ := Cond.castable_spec hcast
  cases Option.some.inj (hc3.symm.trans hcl)
  obtain ⟨c5, hc5, hcl5⟩ := Cond.classLink_spec hown hlink e.platform hpl
  cases Option.some.inj (hc4.symm.trans hc5)
  obtain ⟨vm', X', st⟩ := X.thenCaughtThrough q (g := F0 m pc ls rest) rfl (Steps.refl _) (by rw [hT]; exact hcell) (by rw [hv]; rfl) (by obtain ⟨k9, h9, -⟩ := Vm.findClass_spec hcl; exact ⟨k9, h9⟩) pre x suf hsplit
    (fun z hz => by
      rcases hpass z hz with h | ⟨hz0, nm, hl1, hn1⟩
      · exact Or.inl h
      · obtain ⟨c6, hc6, hcl6⟩ := Cond.classLink_spec hown hl1 e.platform hpl
        obtain ⟨a8, b8, h1, h2, h3⟩ := hn1
        cases Option.some.inj (h1.symm.trans hcl)
        cases Option.some.inj (h2.symm.trans hc6)
        exact Or.inr ⟨hz0, _, hcl6, h3⟩) hx (Or.inr ⟨h0, c4, hcl5, hasg⟩)
  obtain ⟨t, a1, b1⟩ := kk (T.setVm vm') hT X'
  exact ⟨t, st.trans a1, b1⟩
end Rows
section Ends
variable {p : Program} {l : Launch} {e : Env} {R : Room} {s : State} {m : MethodId} {args : Array Value} {below : List Frame} {meth : Method} {c : Code} {H : Heap} {locs : List Loc} {cells slots : Nat} {Q : State → Prop}
variable {mc ms : Nat} {free : Addr → Prop} {A0 A1 : Nat → Prop} {H0 : Heap} {a : Array Value} {ls : Array Slot} {st0 rest : List Value}
variable {Qc : Array Value → State → Outcome → State → Prop} {XC : String → State → State → Prop}
/-- what a body that may throw owes at its end -/
def vx_MQ (below : List Frame) (Qc : Array Value → State → Outcome → State → Prop) (XC : String → State → State → Prop) (a : Array Value) (s : State) (mc ms : Nat) (free : Addr → Prop) : State → Prop := fun t =>
  ∃ o, t.status = .running ∧ Ended t below o ∧ vx_Q Qc XC mc ms free a s o t
theorem vx_ret {g : JFrame} {mc ms : Nat} (k : W p l e R s m args below meth c H locs cells slots (MQ below Qc args s mc ms free) g) : W p l e R s m args below meth c H locs cells slots (vx_MQ below Qc XC args s mc ms free) g := by
  intro T hT X
  obtain ⟨t, a1, o, b1, b2, b3, b4⟩ := k T hT X
  exact ⟨t, a1, o, b1, b2, Or.inl ⟨b3, b4⟩⟩
/-- not caught here: it goes on to the caller -/
theorem vx_widen {g : JFrame} {q : Addr} {k n : Nat} (h1 : cells ≤ k) (h2 : slots ≤ n) (kk : vx_W p l e R s m args below meth c H locs k n Q g q) : vx_W p l e R s m args below meth c H locs cells slots Q g q := fun T hT X => kk T hT (stand_widen X h1 h2)
theorem vx_out {pc : Nat} {E : String} {ce : Cell} {q : Addr} {mc ms : Nat} (hout : ∀ x ∈ c.exceptionTable.toList, covers x pc = false) (hlocks : meth.locks = false) (hcell : H[q]? = some ce) (hv : ce.vm = .none) (hcl : s.vm.findClass E = some ce.cls)
    (hx : ∀ t : State, t.heap = H → s.vm.Alike t.vm → XC E s t) (hf : ∀ z ∈ locs, free z.base) (hc : cells ≤ mc) (hs : slots ≤ ms) :
    vx_W p l e R s m args below meth c H locs cells slots (vx_MQ below Qc XC args s mc ms free) (F0 m pc ls rest) q := by
  intro T hT X
  obtain ⟨st1, hrun, hend, hW, hsm⟩ := X.leaveThrown q (g := F0 m pc ls rest) rfl rfl rfl hout hlocks
  have hcell9 : (T.setFrames (.throwing q :: below)).heap[q]? = some ce := by
    show T.heap[q]? = some ce
    rw [hT]; exact hcell
  exact ⟨_, st1, .threw q, hrun, hend, Or.inr ⟨q, rfl, E, ce, locs, hx _ hT hW.alike, hcell9, hv, hcl, hW, hsm.mono hc hs, hf⟩⟩
theorem vx_frame {U : State} {k n : Nat} (h : s.sameButNew ({ U with vm := s.vm } : State) locs k n) : s.heap.size ≤ U.heap.size ∧ ∀ q : Nat, q < s.heap.size → (∀ z ∈ locs, z.base ≠ q) → U.heap[q]? = s.heap[q]? := by
  obtain ⟨-, h2, -, -, -, h6⟩ := h
  refine ⟨h2, fun q hq hz => ?_⟩
  obtain ⟨c9, e1, e2, e3, e4⟩ := h6 q _ (Array.getElem?_eq_getElem hq)
  have hs : c9.slots = (s.heap[q]).slots := Array.ext_getElem? fun i => e4 i fun hm => hz _ hm rfl
  have h9 : c9 = s.heap[q] := by
    rw [hs] at e2
    exact e2
  have e5 : U.heap[q]? = some c9 := e1
  rw [e5, h9, Array.getElem?_eq_getElem hq]
/-- the words of a throw but the four that speak of the heap -/
def vx_no (w : Cond) : Bool := decide (w ≠ .isRef (.static Bundle.tN "UNASSIGNED_STACK" Bundle.steD)) && decide (w ≠ .isRef (.static Bundle.tN "SUPPRESSED_SENTINEL" Bundle.listD)) && decide (w ≠ .laysStatic Bundle.tN "UNASSIGNED_STACK" Bundle.steD) && decide (w ≠ .laysStatic Bundle.tN "SUPPRESSED_SENTINEL" Bundle.listD)
def vx_at0 (own : String) (ic : Nat) (X : String) (names : List String) : List Cond := (Bundle.ownAtoms0 own ic X names).filter vx_no
def vx_atS (own : String) (ic : Nat) (X : String) (names : List String) : List Cond := (Bundle.ownAtoms own ic X names).filter vx_no
/-- a word that the tables alone decide, or a good one -/
def vx_ot (w : Cond) : Bool := w.onTables || goodWord w
theorem vx_ot_at {args a' : Array Value} {s U : State} {w : Cond} (hW : s.WarmedH U.vm) (hvm : s.vm = U.vm) (hg : vx_ot w = true) (h : w.before args s = true) : w.before a' U = true := by
  simp only [vx_ot, Bool.or_eq_true] at hg
  rcases hg with hg | hg
  · exact va_tabs hg hvm h
  · exact word_at hW (good_of_word hg) h
/-- a list's words: the good ones out of the method's own list, the others by premises of their own -/
theorem vx_hat {args : Array Value} {s : State} {L B : List Cond} (h1 : ∀ w ∈ L.filter goodWord, w.before args s = true) (h2 : ∀ w ∈ L.filter (fun w => !goodWord w), w ∈ B) (h3 : ∀ w ∈ B, w.before args s = true) : ∀ w ∈ L, w.before args s = true := by
  intro w hw
  by_cases g : goodWord w = true
  · exact h1 w (List.mem_filter.mpr ⟨hw, g⟩)
  · refine h3 w (h2 w (List.mem_filter.mpr ⟨hw, ?_⟩))
    show (!goodWord w) = true
    cases hgw : goodWord w
    · rfl
    · exact absurd hgw g
theorem vx_c {args : Array Value} {s : State} {w : Cond} {B : List Cond} (h : w.before args s = true) (t : ∀ w ∈ B, w.before args s = true) : ∀ w' ∈ w :: B, w'.before args s = true := fun w' h' => (List.mem_cons.mp h').elim (fun e => by rw [e]; exact h) (t w')
theorem vx_n {args : Array Value} {s : State} : ∀ w ∈ ([] : List Cond), w.before args s = true := fun _ h => nomatch h
theorem vx_own {args : Array Value} {s : State} {L : List Cond} (h1 : ∀ w ∈ L.filter vx_no, w.before args s = true)
    (hU : (Cond.isRef (.static Bundle.tN "UNASSIGNED_STACK" Bundle.steD)).before args s = true) (hN : (Cond.isRef (.static Bundle.tN "SUPPRESSED_SENTINEL" Bundle.listD)).before args s = true)
    (lU : (Cond.laysStatic Bundle.tN "UNASSIGNED_STACK" Bundle.steD).before args s = true) (lN : (Cond.laysStatic Bundle.tN "SUPPRESSED_SENTINEL" Bundle.listD).before args s = true) : ∀ w ∈ L, w.before args s = true := by
  intro w hw
  by_cases e1 : w = .isRef (.static Bundle.tN "UNASSIGNED_STACK" Bundle.steD)
  · rw [e1]; exact hU
  · by_cases e2 : w = .isRef (.static Bundle.tN "SUPPRESSED_SENTINEL" Bundle.listD)
    · rw [e2]; exact hN
    · by_cases e3 : w = .laysStatic Bundle.tN "UNASSIGNED_STACK" Bundle.steD
      · rw [e3]; exact lU
      · by_cases e4 : w = .laysStatic Bundle.tN "SUPPRESSED_SENTINEL" Bundle.listD
        · rw [e4]; exact lN
        · exact h1 w (List.mem_filter.mpr ⟨hw, by unfold vx_no; rw [decide_eq_true e1, decide_eq_true e2, decide_eq_true e3, decide_eq_true e4]; rfl⟩)
/-- where a static field lies, its class's statics cell in H -/
def vx_L (C n d : String) (A : Nat → Prop) (U : State) (H : Heap) : Prop := ∃ (c : ClassId) (k : Class) (i : Nat) (f : Field) (a : Nat) (cell : Cell), U.vm.findClass C = some c ∧ U.fieldFound? C n d = some (c, k, i, f) ∧ f.isStatic = true ∧ k.statics = some a ∧ H[a]? = some cell ∧ cell.vm.isStatics = true ∧ cell.cls = c ∧ f.slot < cell.slots.size ∧ k.staticTypes[f.slot]? = some f.type ∧ ¬ A a
theorem vx_L.moved {C n d : String} {A : Nat → Prop} {u U : State} {H : Heap} (hvm : u.vm.Alike U.vm) (h : vx_L C n d A u H) : vx_L C n d A U H := by
  obtain ⟨c, k, i, f, a, cell, h1, h2, h3, h4, h5, h6, h7, h8, h9, h10⟩ := h
  obtain ⟨k', hi', he⟩ := State.fieldFound?_setVm hvm h2
  exact ⟨c, k', i, f, a, cell, by rw [hvm.findClass]; exact h1, hi', h3, by rw [he]; exact h4, h5, h6, h7, h8, by rw [he]; exact h9, h10⟩
theorem vx_L.kept {C n d : String} {A : Nat → Prop} {U : State} {H H1 : Heap} (h : vx_L C n d A U H) (hq : ∀ a : Nat, a < H.size → ¬ A a → H1[a]? = H[a]?) : vx_L C n d A U H1 := by
  obtain ⟨c, k, i, f, a, cell, h1, h2, h3, h4, h5, h6, h7, h8, h9, h10⟩ := h
  exact ⟨c, k, i, f, a, cell, h1, h2, h3, h4, by rw [hq a (Array.getElem?_eq_some_iff.mp h5).1 h10]; exact h5, h6, h7, h8, h9, h10⟩
theorem vx_L.narrow {C n d : String} {A B : Nat → Prop} {U : State} {H : Heap} (h : vx_L C n d A U H) (hAB : ∀ q, B q → A q) : vx_L C n d B U H := by
  obtain ⟨c, k, i, f, a, cell, h1, h2, h3, h4, h5, h6, h7, h8, h9, h10⟩ := h
  exact ⟨c, k, i, f, a, cell, h1, h2, h3, h4, h5, h6, h7, h8, h9, fun z => h10 (hAB _ z)⟩
theorem vx_L.word {C n d : String} {A : Nat → Prop} {s : State} {args : Array Value} (h : vx_L C n d A s s.heap) : (Cond.laysStatic C n d).before args s = true := by
  obtain ⟨c, k, i, f, a, cell, h1, h2, h3, h4, h5, h6, h7, h8, h9, -⟩ := h
  show (Cond.laysStatic C n d).holds args s none s [] = true
  exact Cond.laysStatic_of h1 h2 h3 h4 h5 h6 h7 h8 h9
/-- .. and what it holds: null or some reference -/
def vx_Zq (C n d : String) (A : Nat → Prop) (U : State) (H : Heap) : Prop := va_Zq C n d A U H ∧ vx_L C n d A U H
theorem vx_Zq.moved {C n d : String} {A : Nat → Prop} {u U : State} {H : Heap} (hvm : u.vm.Alike U.vm) (h : vx_Zq C n d A u H) : vx_Zq C n d A U H := ⟨va_Zq.moved hvm h.1, vx_L.moved hvm h.2⟩
theorem vx_Zq.kept {C n d : String} {A : Nat → Prop} {U : State} {H H1 : Heap} (h : vx_Zq C n d A U H) (hq : ∀ a : Nat, a < H.size → ¬ A a → H1[a]? = H[a]?) : vx_Zq C n d A U H1 := ⟨va_Zq.kept h.1 hq, vx_L.kept h.2 hq⟩
theorem vx_Zq.narrow {C n d : String} {A B : Nat → Prop} {U : State} {H : Heap} (h : vx_Zq C n d A U H) (hAB : ∀ q, B q → A q) : vx_Zq C n d B U H := ⟨va_Zq.narrow h.1 hAB, vx_L.narrow h.2 hAB⟩
theorem vx_Zqof {args : Array Value} {s : State} {C n d : String} {A : Nat → Prop} (hl : (Cond.laysStatic C n d).before args s = true) (hini : (Cond.initialized C).before args s = true) (h : (Cond.isRef (.static C n d)).before args s = true) (hA : ∀ a : Nat, a < s.heap.size → ¬ A a) : vx_Zq C n d A s s.heap := by
  refine ⟨va_Zqof hl hini h hA, ?_⟩
  obtain ⟨c, k, i, f, a, cell, h1, h2, h3, h4, h5, h6, h7, h8, h9⟩ := Cond.laysStatic_spec hl
  exact ⟨c, k, i, f, a, cell, h1, h2, h3, h4, h5, h6, h7, h8, h9, hA a (Array.getElem?_eq_some_iff.mp h5).1⟩
theorem vx_isRef {C n d : String} {v : Value} {A : Nat → Prop} {s : State} {args : Array Value} (h : va_Z C n d v A s s.heap) (hv : v.isRef = true) : (Cond.isRef (.static C n d)).before args s = true := by
  obtain ⟨cf, kf, fi, f, a, cell, h1, h2, h3, h4, h5, h6, h7, -⟩ := h
  have he : (Term.static C n d).eval args s none [] s = some v := by
    simp [Term.eval, State.fieldNamed?, h1, h2, h4, h5, h6, h7]
  simp only [Cond.before, Cond.holds, Cond.value, he]
  cases v <;> simp_all [Value.isRef]
theorem vx_isRefq {C n d : String} {A : Nat → Prop} {s : State} {args : Array Value} (h : va_Zq C n d A s s.heap) : (Cond.isRef (.static C n d)).before args s = true := by
  rcases h with h | ⟨t, h⟩
  · exact vx_isRef h rfl
  · exact vx_isRef h rfl
/-- the same frame, seen from here: as if the method were called anew in this heap -/
theorem vx_rebase {T : State} (X : Stand p l e R s m args below meth c T locs cells slots) {R' : Room} (hf : R'.frames ≤ R.frames) (hl : R'.locals ≤ R.locals) (hc : cells + R'.cells ≤ R.cells) (hs : slots + R'.slots ≤ R.slots) :
    Stand p l e R' ((T.setVm s.vm).setFrames (.invoking m args :: below)) m args below meth c T [] 0 0 := by
  have htop : (T.setVm s.vm).topJava?.isSome := X.here.top
  have hF : ((T.setVm s.vm).setFrames (.invoking m args :: below)).frames = .invoking m args :: below := State.frames_setFrames _ (State.cur_lt_of_top htop)
  obtain ⟨g₀, hg0⟩ := Option.isSome_iff_exists.mp htop
  obtain ⟨r, hr⟩ := State.topJava?_eq_some.mp hg0
  have hl9 : e.platform.stackLimits (T.setVm s.vm).me = e.platform.stackLimits s.me := X.limits
  have hb9 : (T.setVm s.vm).me.stackBytes = s.me.stackBytes := X.bytes
  refine ⟨X.admits, X.cas, X.clock, hF, ?_, X.hears, X.method, X.code, X.here, X.tail, X.warmed, ?_, ?_, ?_⟩
  · have h := X.room
    have hU : ((T.setVm s.vm).setFrames (.invoking m args :: below)).localsInUse = s.localsInUse := by
      rw [State.localsInUse_invoking hF (meth := meth) (c := c) X.method X.code, State.localsInUse_invoking X.frames X.method X.code]
    simp only [State.hasRoom, Bool.and_eq_true, decide_eq_true_eq] at h ⊢
    obtain ⟨⟨⟨⟨h1, h2, h3, h4, h5, h6⟩, h7⟩, h8⟩, h9⟩ := h
    rw [X.frames, List.length_cons] at h2 h3
    have q1 := X.heapSize
    have q2 := X.used
    simp only [hF, hU, List.length_cons, State.stackLimits_setFrames, State.stackBytes_setFrames, hl9, hb9]
    refine ⟨⟨⟨⟨by omega, by omega, by omega, by omega, by omega, h6⟩, ?_⟩, ?_⟩, X.book⟩
    · show T.heap.size + R'.cells ≤ e.platform.maxCells
      omega
    · show T.slotsUsed + R'.slots ≤ e.platform.maxSlots
      omega
  · rw [State.stackLimits_setFrames]; rfl
  · rw [State.stackBytes_setFrames]; rfl
  · refine ⟨?_, Nat.le_refl _, Nat.le_refl _, ?_, ?_, fun a c9 h9 => ⟨c9, h9, rfl, rfl, fun _ _ => rfl⟩⟩
    · obtain ⟨t, ht, -⟩ := State.frames_cons hr
      show T.setVm s.vm = { ((T.setVm s.vm).setFrames (.invoking m args :: below)).setFrames (T.setVm s.vm).frames with heap := T.heap, slotsUsed := T.slotsUsed }
      rw [State.setFrames_setFrames, State.setFrames_self ht]
      rfl
    · show T.slotsUsed = T.slotsUsed + ((T.heap.toList.drop T.heap.size).map (·.slots.size)).sum
      rw [List.drop_eq_nil_of_le (Nat.le_of_eq Array.length_toList)]
      rfl
    · show ((T.heap.toList.drop T.heap.size).map (·.slots.size)).sum ≤ 0
      rw [List.drop_eq_nil_of_le (Nat.le_of_eq Array.length_toList)]
      exact Nat.le_refl _
/-- 'throw new E()': new; dup; invokespecial; athrow -/
theorem vx_throw0 {cc : ByteArray} {pc : Nat} (hexec : p.tables.exec = Jvm.exec) (hb : c.code = cc) (hl : l.stackTraces = false) {own cls : String} {names : List String} {ik ic mc ms : Nat} {A : Nat → Prop}
    (hown : s.vm.findClass own = some m.cls) (hcls : Bundle.fit cls = true) (hnames : ∀ n ∈ names, Bundle.fit n = true)
    (hk : (Cond.classLink own ik cls).before args s = true) (hini : (Cond.initialized cls).before args s = true) (hat : ∀ w ∈ vx_at0 own ic cls names, w.before args s = true)
    (hgood : ∀ w ∈ Cond.classLink own ik cls :: Cond.initialized cls :: vx_at0 own ic cls names, vx_ot w = true)
    (hU : vx_Zq Bundle.tN "UNASSIGNED_STACK" Bundle.steD A s s.heap) (hN : vx_Zq Bundle.tN "SUPPRESSED_SENTINEL" Bundle.listD A s s.heap) (hS : va_S A s.heap H locs) (hsize : ls.size = c.maxLocals)
    (d0 : decode cc pc = .ok (.new ik, 3)) (d3 : decode cc (pc + 3) = .ok (.dup, 1)) (d4 : decode cc (pc + 4) = .ok (.invokespecial ic, 3)) (d7 : decode cc (pc + 7) = .ok (.athrow, 1))
    (hout : ∀ x ∈ c.exceptionTable.toList, covers x (pc + 7) = false)
    (hRframes : names.length + 3 < R.frames) (hRlocals : (rest.map fun v => v.category).sum + (13 * (names.length + 1) + 42) ≤ R.locals) (hRcells : cells + 1 ≤ R.cells) (hRslots : slots + 6 ≤ R.slots) (hlocks : meth.locks = false)
    (hx : ∀ t : State, s.vm.Alike t.vm → H.size ≤ t.heap.size → (∀ q : Nat, q < H.size → t.heap[q]? = H[q]?) → XC cls s t)
    (hf : ∀ z ∈ locs, free z.base) (hc : cells + 1 ≤ mc) (hs : slots + 6 ≤ ms) :
    W p l e R s m args below meth c H locs cells slots (vx_MQ below Qc XC args s mc ms free) (F0 m pc ls rest) := by
  intro T hT X
  have htr : e.platform.stackTraces = false := (show e.platform.stackTraces = l.stackTraces by rw [X.admits.platform]).trans hl
  have Y := vx_rebase X (R' := { frames := R.frames, locals := R.locals, cells := 1, slots := 6 }) (Nat.le_refl _) (Nat.le_refl _) hRcells hRslots
  obtain ⟨s', hA⟩ : ∃ z, z = (T.setVm s.vm).setFrames (.invoking m args :: below) := ⟨_, rfl⟩
  rw [← hA] at Y
  have hvm : s'.vm = s.vm := by rw [hA]; rfl
  have hhp : s'.heap = H := by rw [hA]; exact hT
  have hW0 : s.WarmedH s'.vm := by rw [hvm]; exact State.WarmedH.refl s
  have hat' : ∀ w ∈ vx_at0 own ic cls names, w.before args s' = true := fun w hw => vx_ot_at hW0 hvm.symm (hgood w (List.mem_cons_of_mem _ (List.mem_cons_of_mem _ hw))) (hat w hw)
  have hk' : (Cond.classLink own ik cls).before args s' = true := vx_ot_at hW0 hvm.symm (hgood _ List.mem_cons_self) hk
  have hini' : (Cond.initialized cls).before args s' = true := vx_ot_at hW0 hvm.symm (hgood _ (List.mem_cons_of_mem _ List.mem_cons_self)) hini
  have hU' : vx_Zq Bundle.tN "UNASSIGNED_STACK" Bundle.steD A s' s'.heap := by rw [hhp]; exact vx_Zq.moved hW0.alike (hU.kept hS.2.1)
  have hN' : vx_Zq Bundle.tN "SUPPRESSED_SENTINEL" Bundle.listD A s' s'.heap := by rw [hhp]; exact vx_Zq.moved hW0.alike (hN.kept hS.2.1)
  have h : ∀ w ∈ Bundle.ownAtoms0 own ic cls names, w.before args s' = true := vx_own hat' (vx_isRefq hU'.1) (vx_isRefq hN'.1) hU'.2.word hN'.2.word
  have hown' : s'.vm.findClass own = some m.cls := by rw [hvm]; exact hown
  have hins : (Cond.instantiable cls 6).before args s' = true := h _ (by simp [Bundle.ownAtoms0])
  obtain ⟨vm₁, cX, kX, hfX, hkX, -, -, X₁, st1⟩ := Y.newCold hexec (own := own) (C := cls) (index := ik) (n := 6) hown' hk' hins hini'
    (g := F0 m pc ls rest) rfl (by rw [hb]; exact d0) (Nat.le_refl _) (Nat.le_refl _)
  generalize hT1 : (T.setVm vm₁).pushCell { cls := cX, slots := kX.instanceTypes.map defaultValue, vm := .none } = T1 at X₁ st1
  have hcat : (Value.ref T.heap.size).category = 1 := rfl
  have hcellA : T1.heap[T.heap.size]? = some (freshCell cX kX) := by rw [← hT1]; exact State.heap_pushCell_size _ _
  have d3' : decode c.code (pc + 3) = .ok (.dup, 1) := by rw [hb]; exact d3
  obtain ⟨U, hsteps, hrun, hend, hW, hsame, ce, hce, hO⟩ := X₁.ctorThrow0 hexec htr (own := own) (cls := cls) (names := names) (ic := ic) hown' hcls hnames h (fun x hx => nomatch hx) hfX hkX hcellA (by rw [hhp, hT]; exact Nat.le_refl _)
    (g := { method := m, pc := pc + 4, locals := ls, stack := .ref T.heap.size :: .ref T.heap.size :: rest, locked := none }) rfl hsize rfl rfl (rest := rest) rfl
    (by rw [hb]; exact d4) (by rw [hb]; exact d7) hout hRframes (by simp only [List.map_cons, List.sum_cons, hcat]; omega) hlocks
  obtain ⟨f1, f2⟩ := vx_frame hsame
  rw [hhp] at f1 f2
  have hWs : s.WarmedH U.vm := State.WarmedH.trans hW0 hW
  have hcl : s.vm.findClass cls = some ce.cls := by
    have h9 := hO.cls
    rw [hvm] at h9
    exact h9
  have hall : s.sameButNew ({ U with vm := s.vm } : State) locs mc ms := by
    subst hA
    obtain ⟨e1, e2⟩ := hsame
    rw [State.setFrames_setFrames] at e1
    have h2 : (T.setVm s.vm).sameButNew ({ U with vm := s.vm } : State) [] (0 + 1) (0 + 6) := ⟨e1, e2⟩
    have h3 := X.same.trans h2
    rw [List.append_nil] at h3
    exact h3.mono hc hs
  refine ⟨U, ?_, .threw T.heap.size, hrun, hend, Or.inr ⟨T.heap.size, rfl, cls, ce, locs, hx U hWs.alike f1 (fun q hq => f2 q hq (fun z hz => nomatch hz)), hce, hO.vm, hcl, hWs, hall, hf⟩⟩
  refine st1 _ ?_
  show Steps p.tables e below (T1.setTop { method := m, pc := pc + 3, locals := ls, stack := .ref T.heap.size :: rest, locked := none }) _
  jvm_step X₁.here [X₁.here.top, hexec, d3', Value.category]
  exact hsteps
/-- 'throw new E("text")': new; dup; ldc; invokespecial; athrow -/
theorem vx_throwS {cc : ByteArray} {pc : Nat} (hexec : p.tables.exec = Jvm.exec) (hb : c.code = cc) (hl : l.stackTraces = false) {own cls text : String} {names : List String} {ik is ic mc ms sa : Nat} {A : Nat → Prop}
    (hown : s.vm.findClass own = some m.cls) (hcls : Bundle.fit cls = true) (hnames : ∀ n ∈ names, Bundle.fit n = true)
    (hk : (Cond.classLink own ik cls).before args s = true) (hini : (Cond.initialized cls).before args s = true) (hstr : vk_R own is text sa s) (hat : ∀ w ∈ vx_atS own ic cls names, w.before args s = true)
    (hgood : ∀ w ∈ Cond.classLink own ik cls :: Cond.initialized cls :: vx_atS own ic cls names, vx_ot w = true)
    (hU : vx_Zq Bundle.tN "UNASSIGNED_STACK" Bundle.steD A s s.heap) (hN : vx_Zq Bundle.tN "SUPPRESSED_SENTINEL" Bundle.listD A s s.heap) (hS : va_S A s.heap H locs) (hsize : ls.size = c.maxLocals)
    (d0 : decode cc pc = .ok (.new ik, 3)) (d3 : decode cc (pc + 3) = .ok (.dup, 1)) (d4 : decode cc (pc + 4) = .ok (.ldc is, 2)) (d6 : decode cc (pc + 6) = .ok (.invokespecial ic, 3)) (d9 : decode cc (pc + 9) = .ok (.athrow, 1))
    (hout : ∀ x ∈ c.exceptionTable.toList, covers x (pc + 9) = false)
    (hRframes : names.length + 3 < R.frames) (hRlocals : (rest.map fun v => v.category).sum + (13 * (names.length + 1) + 43) ≤ R.locals) (hRcells : cells + 1 ≤ R.cells) (hRslots : slots + 6 ≤ R.slots) (hlocks : meth.locks = false)
    (hx : ∀ t : State, s.vm.Alike t.vm → H.size ≤ t.heap.size → (∀ q : Nat, q < H.size → t.heap[q]? = H[q]?) → XC cls s t)
    (hf : ∀ z ∈ locs, free z.base) (hc : cells + 1 ≤ mc) (hs : slots + 6 ≤ ms) :
    W p l e R s m args below meth c H locs cells slots (vx_MQ below Qc XC args s mc ms free) (F0 m pc ls rest) := by
  intro T hT X
  have htr : e.platform.stackTraces = false := (show e.platform.stackTraces = l.stackTraces by rw [X.admits.platform]).trans hl
  have Y := vx_rebase X (R' := { frames := R.frames, locals := R.locals, cells := 1, slots := 6 }) (Nat.le_refl _) (Nat.le_refl _) hRcells hRslots
  obtain ⟨s', hA⟩ : ∃ z, z = (T.setVm s.vm).setFrames (.invoking m args :: below) := ⟨_, rfl⟩
  rw [← hA] at Y
  have hvm : s'.vm = s.vm := by rw [hA]; rfl
  have hhp : s'.heap = H := by rw [hA]; exact hT
  have hW0 : s.WarmedH s'.vm := by rw [hvm]; exact State.WarmedH.refl s
  have hat' : ∀ w ∈ vx_atS own ic cls names, w.before args s' = true := fun w hw => vx_ot_at hW0 hvm.symm (hgood w (List.mem_cons_of_mem _ (List.mem_cons_of_mem _ hw))) (hat w hw)
  have hk' : (Cond.classLink own ik cls).before args s' = true := vx_ot_at hW0 hvm.symm (hgood _ List.mem_cons_self) hk
  have hini' : (Cond.initialized cls).before args s' = true := vx_ot_at hW0 hvm.symm (hgood _ (List.mem_cons_of_mem _ List.mem_cons_self)) hini
  have hU' : vx_Zq Bundle.tN "UNASSIGNED_STACK" Bundle.steD A s' s'.heap := by rw [hhp]; exact vx_Zq.moved hW0.alike (hU.kept hS.2.1)
  have hN' : vx_Zq Bundle.tN "SUPPRESSED_SENTINEL" Bundle.listD A s' s'.heap := by rw [hhp]; exact vx_Zq.moved hW0.alike (hN.kept hS.2.1)
  have h : ∀ w ∈ Bundle.ownAtoms own ic cls names, w.before args s' = true := vx_own hat' (vx_isRefq hU'.1) (vx_isRefq hN'.1) hU'.2.word hN'.2.word
  have hown' : s'.vm.findClass own = some m.cls := by rw [hvm]; exact hown
  have hins : (Cond.instantiable cls 6).before args s' = true := h _ (by simp [Bundle.ownAtoms])
  obtain ⟨vm₁, cX, kX, hfX, hkX, -, -, X₁, st1⟩ := Y.newCold hexec (own := own) (C := cls) (index := ik) (n := 6) hown' hk' hins hini'
    (g := F0 m pc ls rest) rfl (by rw [hb]; exact d0) (Nat.le_refl _) (Nat.le_refl _)
  generalize hT1 : (T.setVm vm₁).pushCell { cls := cX, slots := kX.instanceTypes.map defaultValue, vm := .none } = T1 at X₁ st1
  have hcat : (Value.ref T.heap.size).category = 1 := rfl
  have hcellA : T1.heap[T.heap.size]? = some (freshCell cX kX) := by rw [← hT1]; exact State.heap_pushCell_size _ _
  have d3' : decode c.code (pc + 3) = .ok (.dup, 1) := by rw [hb]; exact d3
  have d4' : decode c.code (pc + 4) = .ok (.ldc is, 2) := by rw [hb]; exact d4
  have hstr' : vk_R own is text sa s' := vk_R.warm hW0 hstr
  obtain ⟨U, hsteps, hrun, hend, hW, hsame, ce, hce, hO⟩ := X₁.ctorThrowS hexec htr (own := own) (cls := cls) (names := names) (ic := ic) hown' hcls hnames h (fun x hx => nomatch hx) hfX hkX hcellA (by rw [hhp, hT]; exact Nat.le_refl _) (msg := .ref sa) rfl
    (g := { method := m, pc := pc + 6, locals := ls, stack := .ref sa :: .ref T.heap.size :: .ref T.heap.size :: rest, locked := none }) rfl hsize rfl rfl (rest := rest) rfl
    (by rw [hb]; exact d6) (by rw [hb]; exact d9) hout hRframes (by simp only [List.map_cons, List.sum_cons, hcat]; omega) hlocks
  obtain ⟨f1, f2⟩ := vx_frame hsame
  rw [hhp] at f1 f2
  have hWs : s.WarmedH U.vm := State.WarmedH.trans hW0 hW
  have hcl : s.vm.findClass cls = some ce.cls := by
    have h9 := hO.cls
    rw [hvm] at h9
    exact h9
  have hall : s.sameButNew ({ U with vm := s.vm } : State) locs mc ms := by
    subst hA
    obtain ⟨e1, e2⟩ := hsame
    rw [State.setFrames_setFrames] at e1
    have h2 : (T.setVm s.vm).sameButNew ({ U with vm := s.vm } : State) [] (0 + 1) (0 + 6) := ⟨e1, e2⟩
    have h3 := X.same.trans h2
    rw [List.append_nil] at h3
    exact h3.mono hc hs
  refine ⟨U, ?_, .threw T.heap.size, hrun, hend, Or.inr ⟨T.heap.size, rfl, cls, ce, locs, hx U hWs.alike f1 (fun q hq => f2 q hq (fun z hz => nomatch hz)), hce, hO.vm, hcl, hWs, hall, hf⟩⟩
  refine st1 _ ?_
  show Steps p.tables e below (T1.setTop { method := m, pc := pc + 3, locals := ls, stack := .ref T.heap.size :: rest, locked := none }) _
  jvm_step X₁.here [X₁.here.top, hexec, d3', Value.category]
  exact X₁.ldcString hexec (own := own) (text := text) (index := is) (a := sa) hown' hstr'.1 hstr'.2
    (g := { method := m, pc := pc + 4, locals := ls, stack := .ref T.heap.size :: .ref T.heap.size :: rest, locked := none }) rfl d4' _ hsteps
/-- 'throw new E("text")', the text by a wide index -/
theorem vx_throwSW {cc : ByteArray} {pc : Nat} (hexec : p.tables.exec = Jvm.exec) (hb : c.code = cc) (hl : l.stackTraces = false) {own cls text : String} {names : List String} {ik is ic mc ms sa : Nat} {A : Nat → Prop}
    (hown : s.vm.findClass own = some m.cls) (hcls : Bundle.fit cls = true) (hnames : ∀ n ∈ names, Bundle.fit n = true)
    (hk : (Cond.classLink own ik cls).before args s = true) (hini : (Cond.initialized cls).before args s = true) (hstr : vk_R own is text sa s) (hat : ∀ w ∈ vx_atS own ic cls names, w.before args s = true)
    (hgood : ∀ w ∈ Cond.classLink own ik cls :: Cond.initialized cls :: vx_atS own ic cls names, vx_ot w = true)
    (hU : vx_Zq Bundle.tN "UNASSIGNED_STACK" Bundle.steD A s s.heap) (hN : vx_Zq Bundle.tN "SUPPRESSED_SENTINEL" Bundle.listD A s s.heap) (hS : va_S A s.heap H locs) (hsize : ls.size = c.maxLocals)
    (d0 : decode cc pc = .ok (.new ik, 3)) (d3 : decode cc (pc + 3) = .ok (.dup, 1)) (d4 : decode cc (pc + 4) = .ok (.ldc_w is, 3)) (d7 : decode cc (pc + 7) = .ok (.invokespecial ic, 3)) (d10 : decode cc (pc + 10) = .ok (.athrow, 1))
    (hout : ∀ x ∈ c.exceptionTable.toList, covers x (pc + 10) = false)
    (hRframes : names.length + 3 < R.frames) (hRlocals : (rest.map fun v => v.category).sum + (13 * (names.length + 1) + 43) ≤ R.locals) (hRcells : cells + 1 ≤ R.cells) (hRslots : slots + 6 ≤ R.slots) (hlocks : meth.locks = false)
    (hx : ∀ t : State, s.vm.Alike t.vm → H.size ≤ t.heap.size → (∀ q : Nat, q < H.size → t.heap[q]? = H[q]?) → XC cls s t)
    (hf : ∀ z ∈ locs, free z.base) (hc : cells + 1 ≤ mc) (hs : slots + 6 ≤ ms) :
    W p l e R s m args below meth c H locs cells slots (vx_MQ below Qc XC args s mc ms free) (F0 m pc ls rest) := by
  intro T hT X
  have htr : e.platform.stackTraces = false := (show e.platform.stackTraces = l.stackTraces by rw [X.admits.platform]).trans hl
  have Y := vx_rebase X (R' := { frames := R.frames, locals := R.locals, cells := 1, slots := 6 }) (Nat.le_refl _) (Nat.le_refl _) hRcells hRslots
  obtain ⟨s', hA⟩ : ∃ z, z = (T.setVm s.vm).setFrames (.invoking m args :: below) := ⟨_, rfl⟩
  rw [← hA] at Y
  have hvm : s'.vm = s.vm := by rw [hA]; rfl
  have hhp : s'.heap = H := by rw [hA]; exact hT
  have hW0 : s.WarmedH s'.vm := by rw [hvm]; exact State.WarmedH.refl s
  have hat' : ∀ w ∈ vx_atS own ic cls names, w.before args s' = true := fun w hw => vx_ot_at hW0 hvm.symm (hgood w (List.mem_cons_of_mem _ (List.mem_cons_of_mem _ hw))) (hat w hw)
  have hk' : (Cond.classLink own ik cls).before args s' = true := vx_ot_at hW0 hvm.symm (hgood _ List.mem_cons_self) hk
  have hini' : (Cond.initialized cls).before args s' = true := vx_ot_at hW0 hvm.symm (hgood _ (List.mem_cons_of_mem _ List.mem_cons_self)) hini
  have hU' : vx_Zq Bundle.tN "UNASSIGNED_STACK" Bundle.steD A s' s'.heap := by rw [hhp]; exact vx_Zq.moved hW0.alike (hU.kept hS.2.1)
  have hN' : vx_Zq Bundle.tN "SUPPRESSED_SENTINEL" Bundle.listD A s' s'.heap := by rw [hhp]; exact vx_Zq.moved hW0.alike (hN.kept hS.2.1)
  have h : ∀ w ∈ Bundle.ownAtoms own ic cls names, w.before args s' = true := vx_own hat' (vx_isRefq hU'.1) (vx_isRefq hN'.1) hU'.2.word hN'.2.word
  have hown' : s'.vm.findClass own = some m.cls := by rw [hvm]; exact hown
  have hins : (Cond.instantiable cls 6).before args s' = true := h _ (by simp [Bundle.ownAtoms])
  obtain ⟨vm₁, cX, kX, hfX, hkX, -, -, X₁, st1⟩ := Y.newCold hexec (own := own) (C := cls) (index := ik) (n := 6) hown' hk' hins hini'
    (g := F0 m pc ls rest) rfl (by rw [hb]; exact d0) (Nat.le_refl _) (Nat.le_refl _)
  generalize hT1 : (T.setVm vm₁).pushCell { cls := cX, slots := kX.instanceTypes.map defaultValue, vm := .none } = T1 at X₁ st1
  have hcat : (Value.ref T.heap.size).category = 1 := rfl
  have hcellA : T1.heap[T.heap.size]? = some (freshCell cX kX) := by rw [← hT1]; exact State.heap_pushCell_size _ _
  have d3' : decode c.code (pc + 3) = .ok (.dup, 1) := by rw [hb]; exact d3
  have d4' : decode c.code (pc + 4) = .ok (.ldc_w is, 3) := by rw [hb]; exact d4
  have hstr' : vk_R own is text sa s' := vk_R.warm hW0 hstr
  obtain ⟨U, hsteps, hrun, hend, hW, hsame, ce, hce, hO⟩ := X₁.ctorThrowS hexec htr (own := own) (cls := cls) (names := names) (ic := ic) hown' hcls hnames h (fun x hx => nomatch hx) hfX hkX hcellA (by rw [hhp, hT]; exact Nat.le_refl _) (msg := .ref sa) rfl
    (g := { method := m, pc := pc + 7, locals := ls, stack := .ref sa :: .ref T.heap.size :: .ref T.heap.size :: rest, locked := none }) rfl hsize rfl rfl (rest := rest) rfl
    (by rw [hb]; exact d7) (by rw [hb]; exact d10) hout hRframes (by simp only [List.map_cons, List.sum_cons, hcat]; omega) hlocks
  obtain ⟨f1, f2⟩ := vx_frame hsame
  rw [hhp] at f1 f2
  have hWs : s.WarmedH U.vm := State.WarmedH.trans hW0 hW
  have hcl : s.vm.findClass cls = some ce.cls := by
    have h9 := hO.cls
    rw [hvm] at h9
    exact h9
  have hall : s.sameButNew ({ U with vm := s.vm } : State) locs mc ms := by
    subst hA
    obtain ⟨e1, e2⟩ := hsame
    rw [State.setFrames_setFrames] at e1
    have h2 : (T.setVm s.vm).sameButNew ({ U with vm := s.vm } : State) [] (0 + 1) (0 + 6) := ⟨e1, e2⟩
    have h3 := X.same.trans h2
    rw [List.append_nil] at h3
    exact h3.mono hc hs
  refine ⟨U, ?_, .threw T.heap.size, hrun, hend, Or.inr ⟨T.heap.size, rfl, cls, ce, locs, hx U hWs.alike f1 (fun q hq => f2 q hq (fun z hz => nomatch hz)), hce, hO.vm, hcl, hWs, hall, hf⟩⟩
  refine st1 _ ?_
  show Steps p.tables e below (T1.setTop { method := m, pc := pc + 3, locals := ls, stack := .ref T.heap.size :: rest, locked := none }) _
  jvm_step X₁.here [X₁.here.top, hexec, d3', Value.category]
  exact X₁.ldcStringW hexec (own := own) (text := text) (index := is) (a := sa) hown' hstr'.1 hstr'.2
    (g := { method := m, pc := pc + 4, locals := ls, stack := .ref T.heap.size :: .ref T.heap.size :: rest, locked := none }) rfl d4' _ hsteps
end Ends
section Bodies
variable {l : Launch}
theorem vx_ofW {y : MethodName} {ws ws' : List Cond} {rm : Room} {Pc : Array Value → State → Prop} {Qc : Array Value → State → Outcome → State → Prop} {XC : String → State → State → Prop} {mc ms : Nat} {free : Addr → Prop} {cc : ByteArray} {maxL : Nat} {ret : Option FieldType}
    (hy : plainName y.cls = true) (hw : ws = Cond.code y cc maxL ret :: ws')
    (body : ∀ p e s m args below meth c s₁, BodyLoose p l y (headSpec ws rm) cc maxL ret e s m args below meth c s₁ → c.maxLocals = maxL → (∀ x ∈ c.exceptionTable.toList, False) → Pc args s →
      W p l e (headSpec ws rm).room s m args below meth c s.heap [] 0 0 (vx_MQ below Qc XC args s mc ms free) (entryFrame m args maxL)) : vx_Met l y ws rm Pc Qc XC mc ms free := by
  refine MetFree.of_bodyS (code := cc) (maxLocals := maxL) (ret := ret) hy ?_ ?_
  · intro args s m h hn
    obtain ⟨meth, c, h1, h2, h3, h4, h5, h6, -, -⟩ := Cond.code_spec hn (atoms_spec (ws := ws) h _ (by rw [hw]; exact List.mem_cons_self))
    exact ⟨meth, c, h1, h2, h3, h4, h5, h6⟩
  · intro p e s m args below meth c s₁ B hml hP _
    have hh0 : s₁.heap = s.heap := by rw [B.state]; rfl
    have ht : ∀ x ∈ c.exceptionTable.toList, False := by
      obtain ⟨meth9, c9, h1, h2, -, -, -, -, h7, -⟩ := Cond.code_spec B.named (atoms_spec (ws := ws) B.pre _ (by rw [hw]; exact List.mem_cons_self))
      cases Option.some.inj (h1.symm.trans B.method)
      cases Option.some.inj (h2.symm.trans (Stand.of_body B).code)
      intro x hx
      rw [Array.isEmpty_iff.mp h7] at hx
      cases hx
    obtain ⟨t, a1, o, b1, b2, b3⟩ := body p e s m args below meth c s₁ B hml ht hP s₁ hh0 (Stand.of_body B)
    exact ⟨t, o, a1, b1, b2, b3⟩
/-- the table of a body with handlers -/
theorem vx_table {p : Program} {x y : MethodName} {S : Spec} {cc bytes : ByteArray} {maxL maxL' : Nat} {ret ret' : Option FieldType} {e : Env} {s s₁ : State} {m : MethodId} {args : Array Value} {below : List Frame} {meth : Method} {c : Code} {hh : List (Nat × Nat × Nat × Nat)}
    (B : BodyLoose p l y S cc maxL ret e s m args below meth c s₁) (h : (Cond.codeWith y bytes maxL' ret' hh).before args s = true) : c.exceptionTable.toList = tableOf hh := by
  obtain ⟨m9, meth9, c9, hn9, h1, h2, -, -, h6, -⟩ := Cond.codeWith_spec h
  cases Option.some.inj (hn9.symm.trans B.named)
  cases Option.some.inj (h1.symm.trans B.method)
  cases Option.some.inj (h2.symm.trans (Stand.of_body B).code)
  rw [← h6, table_eq]
end Bodies
end VXA
/-! ===== END ===== -/
/-! ===== BEGIN a static call of a method with an exception table ===== -/
section VXS
variable {p : Program} {l : Launch} {e : Env} {R : Room} {s : State} {m : MethodId} {args : Array Value} {below : List Frame} {meth : Method} {c : Code} {T : State} {H : Heap} {locs : List Loc} {cells slots : Nat}
abbrev vx_CSW (R : Room) (s : State) (args : Array Value) (own : String) (index : Nat) (y : MethodName) (bytes : ByteArray) (maxL : Nat) (ret : Option FieldType) (hh : List (Nat × Nat × Nat × Nat)) (ws : List Cond) (rm : Room) (mc ms n : Nat) : Prop :=
  (rm.cells = mc ∧ rm.slots = ms ∧ rm.frames + 1 ≤ R.frames ∧ 8 + (maxL + 11) + rm.locals ≤ R.locals ∧ (∀ w ∈ ws, ∀ (a' : Array Value) (U : State), s.WarmedH U.vm → w.before a' U = true) ∧ Cond.codeWith y bytes maxL ret hh ∈ ws) ∧
  (Cond.codeWith y bytes maxL ret hh).before args s = true ∧ (Cond.initialized y.cls).before args s = true ∧ (y.cls ≠ "java/lang/invoke/MethodHandle" ∧ y.cls ≠ "java/lang/invoke/VarHandle") ∧
  (∀ sig, parseMethodDescriptor y.desc = some sig → n = sig.parameters.length) ∧ (Cond.methodLink own index y).before args s = true ∧ (Cond.static y).before args s = true
theorem vx_cwSW {own : String} {index maxL mc ms : Nat} {y : MethodName} {bytes : ByteArray} {ret : Option FieldType} {hh : List (Nat × Nat × Nat × Nat)} {Ts ws ws' : List Cond} {rm : Room} (n : Nat) (ht : ∀ w ∈ Ts, w.before args s = true) (hT : GoodIn Ts (va_wsS own index y ws)) (hw : ws = Cond.codeWith y bytes maxL ret hh :: ws') (hrc : rm.cells = mc) (hrs : rm.slots = ms)
    (hd : y.cls ≠ "java/lang/invoke/MethodHandle" ∧ y.cls ≠ "java/lang/invoke/VarHandle" ∧ (parseMethodDescriptor y.desc).map (fun d => d.parameters.length) = some n) (hR : rm.frames + 1 ≤ R.frames ∧ 8 + (maxL + 11) + rm.locals ≤ R.locals) :
    vx_CSW R s args own index y bytes maxL ret hh ws rm mc ms n := by
  have ok : ∀ w ∈ va_wsS own index y ws, w.before args s = true := fun w h => ht w (hT w h).1
  have hG : GoodIn Ts ws := fun w h => hT w (by unfold va_wsS; exact List.mem_append_right _ h)
  have hc : Cond.codeWith y bytes maxL ret hh ∈ ws := by rw [hw]; exact List.mem_cons_self
  refine ⟨⟨hrc, hrs, hR.1, hR.2, pay_in ht hG, hc⟩, ht _ (hG _ hc).1, ok _ (by simp [va_wsS]), ⟨hd.1, hd.2.1⟩, fun sig h => ?_, ok _ (by simp [va_wsS]), ok _ (by simp [va_wsS])⟩
  have h2 := hd.2.2
  rw [h] at h2
  exact (Option.some.inj h2).symm
theorem vx_callSW (X : Stand p l e R s m args below meth c T locs cells slots) (hexec : p.tables.exec = Jvm.exec) {own : String} {index : Nat} {y : MethodName} {bytes : ByteArray} {maxL : Nat} {ret : Option FieldType} {hh : List (Nat × Nat × Nat × Nat)}
    (hown : s.vm.findClass own = some m.cls) (hlink : (Cond.methodLink own index y).before args s = true) (hstat : (Cond.static y).before args s = true) (hinit : (Cond.initialized y.cls).before args s = true)
    (hcode : (Cond.codeWith y bytes maxL ret hh).before args s = true) (hy : y.cls ≠ "java/lang/invoke/MethodHandle" ∧ y.cls ≠ "java/lang/invoke/VarHandle")
    {W9 : Nat} {Pre : Pt → Array Value → Prop} {Post : Pt → Array Value → Option Value → Pt → Prop} (hK : Back l R p e below s args y 3 W9 Pre Post)
    {g : JFrame} (hg : g.method = m) (hsize : g.locals.size = c.maxLocals) {argsL rest : List Value} (hlen : ∀ sig, parseMethodDescriptor y.desc = some sig → argsL.length = sig.parameters.length)
    (hstack : g.stack = argsL.reverse ++ rest) (hW : 2 * g.monitorRoom + (rest.map fun v => v.category).sum ≤ W9) (hdg : decode c.code g.pc = .ok (.invokestatic index, 3))
    (hpre : ∀ vm₁, s.WarmedH vm₁ → Pre ⟨T.setVm vm₁, locs, cells, slots⟩ argsL.toArray) :
    ∃ (v : Option Value) (vm₁ : Vm) (B : Pt), s.WarmedH vm₁ ∧ Stand p l e R s m args below meth c B.U B.locs B.cells B.slots ∧ Post ⟨T.setVm vm₁, locs, cells, slots⟩ argsL.toArray v B ∧
      ∀ target, Steps p.tables e below (B.U.setTop { g with pc := g.pc + 3, stack := v.toList ++ rest }) target → Steps p.tables e below (T.setTop g) target := by
  obtain ⟨mk, methM, cM, hnamed, hmethM, -, -, -, -, -, -, hsigM⟩ := Cond.codeWith_spec hcode
  have hstatic : methM.isStatic = true := Cond.static_spec hnamed hmethM hstat
  obtain ⟨kP, hkP, -⟩ := className_of_methodNamed hnamed
  have hinitP : kP.init = .initialized := Cond.initialized_spec (findClass_of_methodNamed hnamed) hkP hinit
  obtain ⟨vm₁, X₁, hstep₁⟩ := X.invokestatic hexec hown hlink hnamed hmethM hstatic hkP hinitP hy (g := g) hg (argsL := argsL) (rest := rest) (hlen _ hsigM) hstack hdg
  obtain ⟨v, B, X', hpost, hsteps⟩ := hK m meth c ⟨T.setVm vm₁, locs, cells, slots⟩ { g with stack := rest } (.invokestatic index) mk argsL.toArray X₁ hg hsize hdg hW (X₁.named hnamed) (hpre vm₁ X₁.warmed)
  exact ⟨v, vm₁, B, X₁.warmed, X', hpost, fun target h => hstep₁ _ fun acts => by rw [doInvoke_state]; exact hsteps.trans h⟩
theorem vx_runSW {y : MethodName} {bytes cc : ByteArray} {maxL nL mc ms n index : Nat} {ret : Option FieldType} {hh : List (Nat × Nat × Nat × Nat)} {ws : List Cond} {rm : Room} {Pc : Array Value → State → Prop} {Qc : Array Value → State → Outcome → State → Prop} {free : Addr → Prop} {Ts : List Cond} {own : String} {As rest : List Value} {g : JFrame}
    (S : CallFix p m c cc nL s args Ts own) (hM : Met l y ws rm Pc Qc mc ms free) (cw : vx_CSW R s args own index y bytes maxL ret hh ws rm mc ms n) (hp : PreS s H Pc As)
    (hg : g.method = m) (hn : As.length = n) (hsize : g.locals.size = nL) (hstack : g.stack = As.reverse ++ rest) (hW : 2 * g.monitorRoom + (rest.map fun v => v.category).sum ≤ 8) (hdg : decode cc g.pc = .ok (.invokestatic index, 3)) (hf : cells + mc ≤ R.cells ∧ slots + ms ≤ R.slots) :
    va_Run p l e R s m args below meth c H locs cells slots mc ms g rest (Qc As.toArray) (free) := by
  obtain ⟨⟨hrc, hrs, hfr, hlo, hws, hcw⟩, hcode, hini, hy, hlen, hl, hstt⟩ := cw
  have hK : Back l R p e below s args y 3 8 (PreOf R mc ms Pc) (PostOf Qc mc ms free) := va_backW (hh := hh) (bytes := bytes) (maxL := maxL) (ret := ret) hM hp.1 hrc hrs hfr hlo hws hcw (fun a' U hW => word_at hW (Or.inl (by first | rfl | simp [Cond.onTables, Cond.keeps, Cond.steady])) hini)
  obtain ⟨hx, hb, hml, ho, -⟩ := S
  intro T hT X
  obtain ⟨v, vm₁, ⟨U', l2, c2, s2⟩, hW₁, X', ⟨g', mk, t, L, e1, e2, hq, h1, hL, h2, h3⟩, st⟩ := vx_callSW X hx (hh := hh) (bytes := bytes) (maxL := maxL) (ret := ret) ho hl hstt hini hcode hy hK hg (hsize.trans hml.symm) (argsL := As) (rest := rest) (fun sig h => hn.trans (hlen sig h)) hstack hW (by rw [hb]; exact hdg)
    (fun vm₁ hW₁ => ⟨hf.1, hf.2, hp.2 (T.setVm vm₁) hT hW₁⟩)
  dsimp only [Pt.U, Pt.locs, Pt.cells, Pt.slots] at X' e1 e2 h1 h2 h3 st
  subst h1; subst h2; subst h3
  exact ⟨v, (T.setVm vm₁).calling g' mk As.toArray, t, U', L, hT, X', hL, e1, e2, hq, st⟩
/-- not caught here, past rows that name other classes: it goes on to the caller -/
theorem vx_outP {p : Program} {l : Launch} {e : Env} {R : Room} {s : State} {m : MethodId} {args : Array Value} {below : List Frame} {meth : Method} {c : Code} {H : Heap} {locs : List Loc} {cells slots : Nat} {free : Addr → Prop} {ls : Array Slot} {rest : List Value} {Qc : Array Value → State → Outcome → State → Prop} {XC : String → State → State → Prop}
    {pc : Nat} {own E : String} {ce : Cell} {q : Addr} {mc ms : Nat} (hown : s.vm.findClass own = some m.cls) (hlocks : meth.locks = false)
    (hpass : ∀ z ∈ c.exceptionTable.toList, covers z pc = false ∨ (z.catchType ≠ 0 ∧ ∃ nm : String, (Cond.classLink own z.catchType nm).before args s = true ∧ va_Nc E nm s)) (hcell : H[q]? = some ce) (hv : ce.vm = .none) (hcl : s.vm.findClass E = some ce.cls)
    (hx : ∀ t : State, t.heap = H → s.vm.Alike t.vm → XC E s t) (hf : ∀ z ∈ locs, free z.base) (hc : cells ≤ mc) (hs : slots ≤ ms) :
    vx_W p l e R s m args below meth c H locs cells slots (vx_MQ below Qc XC args s mc ms free) (F0 m pc ls rest) q := by
  intro T hT X
  have hpl : e.platform.magicAccessors = ({} : Platform).magicAccessors := by rw [X.admits.platform]
  obtain ⟨vm', hW', X', st⟩ := X.outThrough hlocks q (g := F0 m pc ls rest) rfl rfl rfl (cell := ce) (by rw [hT]; exact hcell) (by rw [hv]; rfl)
    (by obtain ⟨k9, h9, -⟩ := Vm.findClass_spec hcl; exact ⟨k9, h9⟩) (fun z hz => by
      rcases hpass z hz with h | ⟨hz0, nm, hl1, hn1⟩
      · exact Or.inl h
      · obtain ⟨c6, hc6, hcl6⟩ := Cond.classLink_spec hown hl1 e.platform hpl
        obtain ⟨a8, b8, h1, h2, h3⟩ := hn1
        cases Option.some.inj (h1.symm.trans hcl)
        cases Option.some.inj (h2.symm.trans hc6)
        exact Or.inr ⟨hz0, _, hcl6, h3⟩)
  obtain ⟨g₀, hfr⟩ := X'.frames_eq
  have hcell9 : ((T.setVm vm').setFrames (.throwing q :: below)).heap[q]? = some ce := by
    show T.heap[q]? = some ce
    rw [hT]; exact hcell
  have hend : Ended ((T.setVm vm').setFrames (.throwing q :: below)) below (.threw q) := State.frames_setFrames _ (State.cur_lt_of_frames hfr)
  refine ⟨(T.setVm vm').setFrames (.throwing q :: below), ?_, .threw q, X'.here.running, hend, Or.inr ⟨q, rfl, E, ce, locs, hx _ hT (X'.ends _).1.alike, hcell9, hv, hcl, (X'.ends _).1, (X'.ends _).2.mono hc hs, hf⟩⟩
  rw [X.pushThrowing_eq]
  exact st
/-- a thing of a world lies in the heap -/
theorem vx_lt {D : va_G} {cl : List vw_C} {ws : va_W} {H1 : Heap} (h : va_P D cl ws H1) {k : Nat} {q : Nat × va_E} (hk : ws[k]? = some q) : q.1 < H1.size := (h k q hk).lt
end VXS
/-! ===== END ===== -/
/-! ===== BEGIN methods with a table of their own: called by a name, returning or throwing ===== -/
section VXH
/-! vx_backW, vx_callVX, vx_callSX, vx_callVW, vx_runVW, vx_runVX, vx_runSX, vx_ofWH follow the same proofs as their sisters above (Free/Laws.lean, Shelf42/LK1.lean); vx_outP calls Shelf42/NT130.lean (outThrough). -/
section
variable {l : Launch} {R : Room} {p : Program} {e : Env} {below : List Frame} {s : State} {sargs : Array Value} {y : MethodName} {len W9 : Nat}
theorem vx_backW {ws : List Cond} {rm : Room} {Pc : Array Value → State → Prop} {Qc : Array Value → State → Outcome → State → Prop} {XC : String → State → State → Prop} {mc ms : Nat} {free : Addr → Prop} {bytes : ByteArray} {maxL : Nat} {ret : Option FieldType} {hh : List (Nat × Nat × Nat × Nat)}
    (hM : vx_Met l y ws rm Pc Qc XC mc ms free) (hblind : FrameBlind Pc) (hrc : rm.cells = mc) (hrs : rm.slots = ms)
    (hframes : rm.frames + 1 ≤ R.frames) (hlocals : W9 + (maxL + 11) + rm.locals ≤ R.locals)
    (hws : ∀ w ∈ ws, ∀ a' U, s.WarmedH U.vm → w.before a' U = true) (hcode : Cond.codeWith y bytes maxL ret hh ∈ ws) (hinit : ∀ a' U, s.WarmedH U.vm → (Cond.initialized y.cls).before a' U = true) :
    vx_Back l R p e below s sargs y len W9 (PreOf R mc ms Pc) (PostOf Qc mc ms free) (vx_Post XC mc ms free) := by
  intro m meth c A g ig mk a X hg hsize hdg hW hn hp
  have h1 : (headSpec ws rm).pre.before a A.U = true := atoms_intro fun w hw => hws w hw _ _ X.warmed
  have h2 : (Cond.codeWith y bytes maxL ret hh).before a A.U = true := hws _ hcode _ _ X.warmed
  have h3 : (Cond.initialized y.cls).before a A.U = true := hinit _ _ X.warmed
  have h4 : A.cells + (headSpec ws rm).room.cells ≤ R.cells := by rw [show (headSpec ws rm).room.cells = mc from hrc]; exact hp.1
  have h5 : A.slots + (headSpec ws rm).room.slots ≤ R.slots := by rw [show (headSpec ws rm).room.slots = ms from hrs]; exact hp.2.1
  have hPc : Pc a (A.U.calling g mk a) := hblind _ _ _ _ hp.2.2
  obtain ⟨U, Ls, c0, s0⟩ := A
  dsimp only [Pt.U, Pt.locs, Pt.cells, Pt.slots] at h1 h2 h3 h4 h5 X hn hPc ⊢
  obtain ⟨m9, methY, cY, hn9, hmY, hcY, -, hlY, -⟩ := Cond.codeWith_spec h2
  cases Option.some.inj (hn9.symm.trans hn)
  obtain ⟨kY, hkY, -⟩ := className_of_methodNamed hn
  have hinitY : kY.init = .initialized := Cond.initialized_spec (findClass_of_methodNamed hn) hkY h3
  have h : At U g.method c below := by rw [hg]; exact X.here
  have hlocals9 : W9 + (maxL + 11) + (headSpec ws rm).room.locals ≤ R.locals := hlocals
  have happ : (headSpec ws rm).appliesLoose y e.platform (U.calling g mk a) = true :=
    Spec.appliesLoose_calling (g := g) h hdg hn hkY hinitY
      (X.room_calling (g := g) (R' := (headSpec ws rm).room) hsize hmY hcY hframes (by rw [hlY]; omega) h4 h5) h1
  obtain ⟨mid, hmid⟩ := h.above
  have hfr : (U.setTop g).frames = (.java g :: mid) ++ below := by rw [State.frames_setTop' g h.top, hmid]; rfl
  obtain ⟨o, s₂, hsteps, -, hend, hq⟩ := Steps.callFree hM p X.admits X.cas X.clock (acts := []) hfr happ hPc trivial
  have hq' : vx_Q Qc XC mc ms free a (U.calling g mk a) o s₂ := hq
  rw [State.frames_setTop' g h.top] at hend
  obtain ⟨g₀, hg0⟩ := Option.isSome_iff_exists.mp h.top
  obtain ⟨r, hr⟩ := State.topJava?_eq_some.mp hg0
  have hr' : (({ U with heap := s₂.heap, slotsUsed := s₂.slotsUsed } : State).setVm s₂.vm).frames = .java g₀ :: r := hr
  rcases hq' with ⟨hqc, L, hfe, hL⟩ | ⟨q, rfl, E, ce, L, hx, hce, hcv, hcl, hW₂, hsm, hL⟩
  · obtain ⟨⟨v, rfl⟩, hW₂, e2, q2, q3, q4, q5, q6⟩ := id hfe
    have e3 : s₂ = ({ (U.calling g mk a).setFrames s₂.frames with heap := s₂.heap, slotsUsed := s₂.slotsUsed } : State).setVm s₂.vm := by
      have : s₂ = ({ s₂ with vm := (U.calling g mk a).vm } : State).setVm s₂.vm := rfl
      rw [e2] at this
      exact this
    obtain ⟨c₂, i₂, len₂, hc₂, hd₂, hf₂⟩ := hend
    have hW' : U.WarmedH s₂.vm := hW₂
    have hcc : c₂ = c := by
      have h1 : s₂.code? g.method = U.code? g.method := by
        rw [State.code?_eq, State.code?_eq, hW'.alike.method?]
      exact Option.some.inj (hc₂.symm.trans (h1.trans h.code))
    subst hcc
    have hlen : len₂ = len := by rw [hdg] at hd₂; cases hd₂; rfl
    subst hlen
    have hs₂ : s₂ = (({ U with heap := s₂.heap, slotsUsed := s₂.slotsUsed } : State).setVm s₂.vm).setTop { g with pc := g.pc + len₂, stack := v.toList ++ g.stack } := by
      refine e3.trans ?_
      rw [hf₂, State.calling_eq h.top, State.setFrames_setFrames, State.setTop_of_frames _ hr', hr]
      rfl
    have hsame : U.sameButNew ({ U with heap := s₂.heap, slotsUsed := s₂.slotsUsed } : State) L mc ms := by
      refine ⟨?_, q2, q3, q4, q5, q6⟩
      obtain ⟨t, ht, -⟩ := State.frames_cons hr
      show ({ U with heap := s₂.heap, slotsUsed := s₂.slotsUsed } : State) = { U.setFrames U.frames with heap := s₂.heap, slotsUsed := s₂.slotsUsed }
      rw [State.setFrames_self ht]
    subst hg
    refine Or.inl ⟨v, ⟨(({ U with heap := s₂.heap, slotsUsed := s₂.slotsUsed } : State).setVm s₂.vm), Ls ++ L, c0 + mc, s0 + ms⟩,
      ⟨X.admits, X.cas, X.clock, X.frames, X.room, X.hears, X.method, X.code, (X.here.setHeapUsed s₂.heap s₂.slotsUsed).setVm hW'.alike, X.tail, State.WarmedH.trans X.warmed hW', X.limits, X.bytes, X.same.trans (hsame.setVm s.vm)⟩,
      ⟨g, mk, s₂, L, rfl, rfl, hqc, rfl, hL, rfl, rfl⟩, ?_⟩
    show Steps p.tables e below _ ((({ U with heap := s₂.heap, slotsUsed := s₂.slotsUsed } : State).setVm s₂.vm).setTop { g with pc := g.pc + len₂, stack := v.toList ++ g.stack })
    rw [← hs₂]
    exact hsteps
  · obtain ⟨e2, q2, q3, q4, q5, q6⟩ := id hsm
    have e3 : s₂ = ({ (U.calling g mk a).setFrames s₂.frames with heap := s₂.heap, slotsUsed := s₂.slotsUsed } : State).setVm s₂.vm := by
      have : s₂ = ({ s₂ with vm := (U.calling g mk a).vm } : State).setVm s₂.vm := rfl
      rw [e2] at this
      exact this
    have hf₂ : s₂.frames = .throwing q :: .java g :: U.frames.tail := hend
    have hW' : U.WarmedH s₂.vm := hW₂
    have hs₂ : s₂ = ((({ U with heap := s₂.heap, slotsUsed := s₂.slotsUsed } : State).setVm s₂.vm).setTop g).pushFrame (.throwing q) := by
      refine e3.trans ?_
      rw [hf₂, State.calling_eq h.top, State.setFrames_setFrames, State.pushFrame, State.frames_setTop _ hr', State.setTop_of_frames _ hr', State.setFrames_setFrames, hr]
      rfl
    have hsame : U.sameButNew ({ U with heap := s₂.heap, slotsUsed := s₂.slotsUsed } : State) L mc ms := by
      refine ⟨?_, q2, q3, q4, q5, q6⟩
      obtain ⟨t, ht, -⟩ := State.frames_cons hr
      show ({ U with heap := s₂.heap, slotsUsed := s₂.slotsUsed } : State) = { U.setFrames U.frames with heap := s₂.heap, slotsUsed := s₂.slotsUsed }
      rw [State.setFrames_self ht]
    subst hg
    refine Or.inr ⟨q, ⟨(({ U with heap := s₂.heap, slotsUsed := s₂.slotsUsed } : State).setVm s₂.vm), Ls ++ L, c0 + mc, s0 + ms⟩,
      ⟨X.admits, X.cas, X.clock, X.frames, X.room, X.hears, X.method, X.code, (X.here.setHeapUsed s₂.heap s₂.slotsUsed).setVm hW'.alike, X.tail, State.WarmedH.trans X.warmed hW', X.limits, X.bytes, X.same.trans (hsame.setVm s.vm)⟩,
      ⟨g, mk, s₂, L, E, ce, rfl, rfl, hx, hce, hcv, hcl, rfl, hL, rfl, rfl⟩, ?_⟩
    show Steps p.tables e below _ (((({ U with heap := s₂.heap, slotsUsed := s₂.slotsUsed } : State).setVm s₂.vm).setTop g).pushFrame (.throwing q))
    rw [← hs₂]
    exact hsteps
end
variable {p : Program} {l : Launch} {e : Env} {R : Room} {s : State} {m : MethodId} {args : Array Value} {below : List Frame} {meth : Method} {c : Code} {T : State} {H : Heap} {locs : List Loc} {cells slots : Nat}
theorem vx_callVX (X : Stand p l e R s m args below meth c T locs cells slots) (hexec : p.tables.exec = Jvm.exec) {own C : String} {index : Nat} {y : MethodName} {bytes : ByteArray} {maxL : Nat} {ret : Option FieldType} {hh : List (Nat × Nat × Nat × Nat)}
    (hown : s.vm.findClass own = some m.cls) (hlink : (Cond.methodLink own index y).before args s = true) (hinst : (Cond.instanceMethod y).before args s = true) (hsel : (Cond.selects C y y).before args s = true)
    (hcode : (Cond.codeWith y bytes maxL ret hh).before args s = true) (hy : y.cls ≠ "java/lang/invoke/MethodHandle" ∧ y.cls ≠ "java/lang/invoke/VarHandle")
    {W9 : Nat} {Pre : Pt → Array Value → Prop} {Post : Pt → Array Value → Option Value → Pt → Prop} {PostX : Pt → Array Value → Addr → Pt → Prop} (hK : vx_Back l R p e below s args y 3 W9 Pre Post PostX)
    {b : Addr} {cellB : Cell} (hcell : T.heap[b]? = some cellB) (hobj : cellB.vm.isStatics = false) (hcls : s.vm.findClass C = some cellB.cls)
    {g : JFrame} (hg : g.method = m) (hsize : g.locals.size = c.maxLocals) {argsL rest : List Value} (hlen : ∀ sig, parseMethodDescriptor y.desc = some sig → argsL.length = sig.parameters.length)
    (hstack : g.stack = argsL.reverse ++ .ref b :: rest) (hW : 2 * g.monitorRoom + (rest.map fun v => v.category).sum ≤ W9) (hdg : decode c.code g.pc = .ok (.invokevirtual index, 3))
    (hpre : ∀ vm₁, s.WarmedH vm₁ → Pre ⟨T.setVm vm₁, locs, cells, slots⟩ (Value.ref b :: argsL).toArray) :
    (∃ (v : Option Value) (vm₁ : Vm) (B : Pt), s.WarmedH vm₁ ∧ Stand p l e R s m args below meth c B.U B.locs B.cells B.slots ∧ Post ⟨T.setVm vm₁, locs, cells, slots⟩ (Value.ref b :: argsL).toArray v B ∧
      ∀ target, Steps p.tables e below (B.U.setTop { g with pc := g.pc + 3, stack := v.toList ++ rest }) target → Steps p.tables e below (T.setTop g) target) ∨
    (∃ (q : Addr) (vm₁ : Vm) (B : Pt), s.WarmedH vm₁ ∧ Stand p l e R s m args below meth c B.U B.locs B.cells B.slots ∧ PostX ⟨T.setVm vm₁, locs, cells, slots⟩ (Value.ref b :: argsL).toArray q B ∧
      Steps p.tables e below (T.setTop g) ((B.U.setTop { g with stack := rest }).pushFrame (.throwing q))) := by
  obtain ⟨mk, methM, hnamed, hmethM, hstM, habM⟩ := Cond.instanceMethod_spec hinst
  obtain ⟨m8, methM', cM, hn8, hmethM', -, -, -, -, -, -, hsigM⟩ := Cond.codeWith_spec hcode
  cases Option.some.inj (hn8.symm.trans hnamed)
  cases hmethM.symm.trans hmethM'
  obtain ⟨c2, r2, m2, q1, q2, q3, q4, kP, hkP, hkPi⟩ := Cond.selects_spec hsel
  cases hcls.symm.trans q1
  cases (State.methodFound?_of_named hnamed hy).symm.trans q2
  cases hnamed.symm.trans q3
  have hselP : selectMethod e.platform s.vm cellB.cls mk = .method mk := by rw [Launch.admits_selectMethod X.admits]; exact q4
  obtain ⟨vm₁, X₁, hstep₁⟩ := X.invokevirtual hexec hown hlink hnamed hmethM hstM hkP hkPi hy (a := b) (cell := cellB) hcell
    (fun z h => by rw [h] at hobj; cases hobj) hselP hmethM habM hkP hkPi (g := g) hg (argsL := argsL) (rest := rest) (hlen _ hsigM) hstack hdg
  rcases hK m meth c ⟨T.setVm vm₁, locs, cells, slots⟩ { g with stack := rest } (.invokevirtual index) mk (Value.ref b :: argsL).toArray X₁ hg hsize hdg hW (X₁.named hnamed) (hpre vm₁ X₁.warmed) with ⟨v, B, X', hpost, hsteps⟩ | ⟨q, B, X', hpost, hsteps⟩
  · exact Or.inl ⟨v, vm₁, B, X₁.warmed, X', hpost, fun target h => hstep₁ _ fun acts => by rw [doInvoke_state]; exact hsteps.trans h⟩
  · exact Or.inr ⟨q, vm₁, B, X₁.warmed, X', hpost, hstep₁ _ fun acts => by rw [doInvoke_state]; exact hsteps⟩
theorem vx_callSX (X : Stand p l e R s m args below meth c T locs cells slots) (hexec : p.tables.exec = Jvm.exec) {own : String} {index : Nat} {y : MethodName} {bytes : ByteArray} {maxL : Nat} {ret : Option FieldType} {hh : List (Nat × Nat × Nat × Nat)}
    (hown : s.vm.findClass own = some m.cls) (hlink : (Cond.methodLink own index y).before args s = true) (hstat : (Cond.static y).before args s = true) (hinit : (Cond.initialized y.cls).before args s = true)
    (hcode : (Cond.codeWith y bytes maxL ret hh).before args s = true) (hy : y.cls ≠ "java/lang/invoke/MethodHandle" ∧ y.cls ≠ "java/lang/invoke/VarHandle")
    {W9 : Nat} {Pre : Pt → Array Value → Prop} {Post : Pt → Array Value → Option Value → Pt → Prop} {PostX : Pt → Array Value → Addr → Pt → Prop} (hK : vx_Back l R p e below s args y 3 W9 Pre Post PostX)
    {g : JFrame} (hg : g.method = m) (hsize : g.locals.size = c.maxLocals) {argsL rest : List Value} (hlen : ∀ sig, parseMethodDescriptor y.desc = some sig → argsL.length = sig.parameters.length)
    (hstack : g.stack = argsL.reverse ++ rest) (hW : 2 * g.monitorRoom + (rest.map fun v => v.category).sum ≤ W9) (hdg : decode c.code g.pc = .ok (.invokestatic index, 3))
    (hpre : ∀ vm₁, s.WarmedH vm₁ → Pre ⟨T.setVm vm₁, locs, cells, slots⟩ argsL.toArray) :
    (∃ (v : Option Value) (vm₁ : Vm) (B : Pt), s.WarmedH vm₁ ∧ Stand p l e R s m args below meth c B.U B.locs B.cells B.slots ∧ Post ⟨T.setVm vm₁, locs, cells, slots⟩ argsL.toArray v B ∧
      ∀ target, Steps p.tables e below (B.U.setTop { g with pc := g.pc + 3, stack := v.toList ++ rest }) target → Steps p.tables e below (T.setTop g) target) ∨
    (∃ (q : Addr) (vm₁ : Vm) (B : Pt), s.WarmedH vm₁ ∧ Stand p l e R s m args below meth c B.U B.locs B.cells B.slots ∧ PostX ⟨T.setVm vm₁, locs, cells, slots⟩ argsL.toArray q B ∧
      Steps p.tables e below (T.setTop g) ((B.U.setTop { g with stack := rest }).pushFrame (.throwing q))) := by
  obtain ⟨mk, methM, cM, hnamed, hmethM, -, -, -, -, -, -, hsigM⟩ := Cond.codeWith_spec hcode
  have hstatic : methM.isStatic = true := Cond.static_spec hnamed hmethM hstat
  obtain ⟨kP, hkP, -⟩ := className_of_methodNamed hnamed
  have hinitP : kP.init = .initialized := Cond.initialized_spec (findClass_of_methodNamed hnamed) hkP hinit
  obtain ⟨vm₁, X₁, hstep₁⟩ := X.invokestatic hexec hown hlink hnamed hmethM hstatic hkP hinitP hy (g := g) hg (argsL := argsL) (rest := rest) (hlen _ hsigM) hstack hdg
  rcases hK m meth c ⟨T.setVm vm₁, locs, cells, slots⟩ { g with stack := rest } (.invokestatic index) mk argsL.toArray X₁ hg hsize hdg hW (X₁.named hnamed) (hpre vm₁ X₁.warmed) with ⟨v, B, X', hpost, hsteps⟩ | ⟨q, B, X', hpost, hsteps⟩
  · exact Or.inl ⟨v, vm₁, B, X₁.warmed, X', hpost, fun target h => hstep₁ _ fun acts => by rw [doInvoke_state]; exact hsteps.trans h⟩
  · exact Or.inr ⟨q, vm₁, B, X₁.warmed, X', hpost, hstep₁ _ fun acts => by rw [doInvoke_state]; exact hsteps⟩
theorem vx_callVW (X : Stand p l e R s m args below meth c T locs cells slots) (hexec : p.tables.exec = Jvm.exec) {own C : String} {index : Nat} {y : MethodName} {bytes : ByteArray} {maxL : Nat} {ret : Option FieldType} {hh : List (Nat × Nat × Nat × Nat)}
    (hown : s.vm.findClass own = some m.cls) (hlink : (Cond.methodLink own index y).before args s = true) (hinst : (Cond.instanceMethod y).before args s = true) (hsel : (Cond.selects C y y).before args s = true)
    (hcode : (Cond.codeWith y bytes maxL ret hh).before args s = true) (hy : y.cls ≠ "java/lang/invoke/MethodHandle" ∧ y.cls ≠ "java/lang/invoke/VarHandle")
    {W9 : Nat} {Pre : Pt → Array Value → Prop} {Post : Pt → Array Value → Option Value → Pt → Prop} (hK : Back l R p e below s args y 3 W9 Pre Post)
    {b : Addr} {cellB : Cell} (hcell : T.heap[b]? = some cellB) (hobj : cellB.vm.isStatics = false) (hcls : s.vm.findClass C = some cellB.cls)
    {g : JFrame} (hg : g.method = m) (hsize : g.locals.size = c.maxLocals) {argsL rest : List Value} (hlen : ∀ sig, parseMethodDescriptor y.desc = some sig → argsL.length = sig.parameters.length)
    (hstack : g.stack = argsL.reverse ++ .ref b :: rest) (hW : 2 * g.monitorRoom + (rest.map fun v => v.category).sum ≤ W9) (hdg : decode c.code g.pc = .ok (.invokevirtual index, 3))
    (hpre : ∀ vm₁, s.WarmedH vm₁ → Pre ⟨T.setVm vm₁, locs, cells, slots⟩ (Value.ref b :: argsL).toArray) :
    ∃ (v : Option Value) (vm₁ : Vm) (B : Pt), s.WarmedH vm₁ ∧ Stand p l e R s m args below meth c B.U B.locs B.cells B.slots ∧ Post ⟨T.setVm vm₁, locs, cells, slots⟩ (Value.ref b :: argsL).toArray v B ∧
      ∀ target, Steps p.tables e below (B.U.setTop { g with pc := g.pc + 3, stack := v.toList ++ rest }) target → Steps p.tables e below (T.setTop g) target := by
  obtain ⟨mk, methM, hnamed, hmethM, hstM, habM⟩ := Cond.instanceMethod_spec hinst
  obtain ⟨m8, methM', cM, hn8, hmethM', -, -, -, -, -, -, hsigM⟩ := Cond.codeWith_spec hcode
  cases Option.some.inj (hn8.symm.trans hnamed)
  cases hmethM.symm.trans hmethM'
  obtain ⟨c2, r2, m2, q1, q2, q3, q4, kP, hkP, hkPi⟩ := Cond.selects_spec hsel
  cases hcls.symm.trans q1
  cases (State.methodFound?_of_named hnamed hy).symm.trans q2
  cases hnamed.symm.trans q3
  have hselP : selectMethod e.platform s.vm cellB.cls mk = .method mk := by rw [Launch.admits_selectMethod X.admits]; exact q4
  obtain ⟨vm₁, X₁, hstep₁⟩ := X.invokevirtual hexec hown hlink hnamed hmethM hstM hkP hkPi hy (a := b) (cell := cellB) hcell
    (fun z h => by rw [h] at hobj; cases hobj) hselP hmethM habM hkP hkPi (g := g) hg (argsL := argsL) (rest := rest) (hlen _ hsigM) hstack hdg
  obtain ⟨v, B, X', hpost, hsteps⟩ := hK m meth c ⟨T.setVm vm₁, locs, cells, slots⟩ { g with stack := rest } (.invokevirtual index) mk (Value.ref b :: argsL).toArray X₁ hg hsize hdg hW (X₁.named hnamed) (hpre vm₁ X₁.warmed)
  exact ⟨v, vm₁, B, X₁.warmed, X', hpost, fun target h => hstep₁ _ fun acts => by rw [doInvoke_state]; exact hsteps.trans h⟩
abbrev vx_CVW (R : Room) (s : State) (args : Array Value) (own C : String) (index : Nat) (y : MethodName) (bytes : ByteArray) (maxL : Nat) (ret : Option FieldType) (hh : List (Nat × Nat × Nat × Nat)) (ws : List Cond) (rm : Room) (mc ms n : Nat) : Prop :=
  (rm.cells = mc ∧ rm.slots = ms ∧ rm.frames + 1 ≤ R.frames ∧ 8 + (maxL + 11) + rm.locals ≤ R.locals ∧ (∀ w ∈ ws, ∀ (a' : Array Value) (U : State), s.WarmedH U.vm → w.before a' U = true) ∧ Cond.codeWith y bytes maxL ret hh ∈ ws) ∧
  (Cond.codeWith y bytes maxL ret hh).before args s = true ∧ (Cond.initialized y.cls).before args s = true ∧ (y.cls ≠ "java/lang/invoke/MethodHandle" ∧ y.cls ≠ "java/lang/invoke/VarHandle") ∧
  (∀ sig, parseMethodDescriptor y.desc = some sig → n = sig.parameters.length) ∧ (Cond.methodLink own index y).before args s = true ∧ (Cond.instanceMethod y).before args s = true ∧ (Cond.selects C y y).before args s = true
theorem vx_cwVW {own C : String} {index maxL mc ms : Nat} {y : MethodName} {bytes : ByteArray} {ret : Option FieldType} {hh : List (Nat × Nat × Nat × Nat)} {Ts ws ws' : List Cond} {rm : Room} (n : Nat) (ht : ∀ w ∈ Ts, w.before args s = true) (hT : GoodIn Ts (wsV own index C y ws)) (hw : ws = Cond.codeWith y bytes maxL ret hh :: ws') (hrc : rm.cells = mc) (hrs : rm.slots = ms)
    (hd : y.cls = C ∧ y.cls ≠ "java/lang/invoke/MethodHandle" ∧ y.cls ≠ "java/lang/invoke/VarHandle" ∧ (parseMethodDescriptor y.desc).map (fun d => d.parameters.length) = some n) (hR : rm.frames + 1 ≤ R.frames ∧ 8 + (maxL + 11) + rm.locals ≤ R.locals) :
    vx_CVW R s args own C index y bytes maxL ret hh ws rm mc ms n := by
  obtain ⟨hC, hd⟩ := hd
  subst hC
  have ok : ∀ w ∈ wsV own index y.cls y ws, w.before args s = true := fun w h => ht w (hT w h).1
  have hG : GoodIn Ts ws := fun w h => hT w (by unfold wsV; exact List.mem_append_right _ h)
  have hc : Cond.codeWith y bytes maxL ret hh ∈ ws := by rw [hw]; exact List.mem_cons_self
  refine ⟨⟨hrc, hrs, hR.1, hR.2, pay_in ht hG, hc⟩, ht _ (hG _ hc).1, ok _ (by simp [wsV]), ⟨hd.1, hd.2.1⟩, fun sig h => ?_, ok _ (by simp [wsV]), ok _ (by simp [wsV]), ok _ (by simp [wsV])⟩
  have h2 := hd.2.2
  rw [h] at h2
  exact (Option.some.inj h2).symm
theorem vx_runVW {y : MethodName} {bytes cc : ByteArray} {maxL nL mc ms n index : Nat} {ret : Option FieldType} {hh : List (Nat × Nat × Nat × Nat)} {ws : List Cond} {rm : Room} {Pc : Array Value → State → Prop} {Qc : Array Value → State → Outcome → State → Prop} {free : Addr → Prop} {Ts : List Cond} {own C : String} {b : Addr} {As rest : List Value} {g : JFrame}
    (S : CallFix p m c cc nL s args Ts own) (hM : Met l y ws rm Pc Qc mc ms free) (cw : vx_CVW R s args own C index y bytes maxL ret hh ws rm mc ms n) (hp : PreV s H C b Pc As)
    (hg : g.method = m) (hn : As.length = n) (hsize : g.locals.size = nL) (hstack : g.stack = As.reverse ++ .ref b :: rest) (hW : 2 * g.monitorRoom + (rest.map fun v => v.category).sum ≤ 8) (hdg : decode cc g.pc = .ok (.invokevirtual index, 3)) (hf : cells + mc ≤ R.cells ∧ slots + ms ≤ R.slots) :
    va_Run p l e R s m args below meth c H locs cells slots mc ms g rest (Qc (Value.ref b :: As).toArray) free := by
  obtain ⟨⟨hrc, hrs, hfr, hlo, hws, hcw⟩, hcode, hini, hy, hlen, hl, hin, hse⟩ := cw
  have hK : Back l R p e below s args y 3 8 (PreOf R mc ms Pc) (PostOf Qc mc ms free) := va_backW (hh := hh) (bytes := bytes) (maxL := maxL) (ret := ret) hM hp.1 hrc hrs hfr hlo hws hcw (fun a' U hW => word_at hW (Or.inl (by first | rfl | simp [Cond.onTables, Cond.keeps, Cond.steady])) hini)
  obtain ⟨hx, hb, hml, ho, -⟩ := S
  obtain ⟨-, ⟨cellB, hcB, hoB, hclB⟩, hPc⟩ := hp
  intro T hT X
  obtain ⟨v, vm₁, ⟨U', l2, c2, s2⟩, hW₁, X', ⟨g', mk, t, L, e1, e2, hq, h1, hL, h2, h3⟩, st⟩ := vx_callVW X hx (C := C) (hh := hh) (bytes := bytes) (maxL := maxL) (ret := ret) ho hl hin hse hcode hy hK (by rw [hT]; exact hcB) hoB hclB hg (hsize.trans hml.symm) (argsL := As) (rest := rest) (fun sig h => hn.trans (hlen sig h)) hstack hW (by rw [hb]; exact hdg)
    (fun vm₁ hW₁ => ⟨hf.1, hf.2, hPc (T.setVm vm₁) hT hW₁⟩)
  dsimp only [Pt.U, Pt.locs, Pt.cells, Pt.slots] at X' e1 e2 h1 h2 h3 st
  subst h1; subst h2; subst h3
  exact ⟨v, (T.setVm vm₁).calling g' mk (Value.ref b :: As).toArray, t, U', L, hT, X', hL, e1, e2, hq, st⟩
section
variable {y : MethodName} {bytes cc : ByteArray} {maxL nL mc ms n index : Nat} {ret : Option FieldType} {ws : List Cond} {rm : Room} {Pc : Array Value → State → Prop} {Qc : Array Value → State → Outcome → State → Prop} {XC : String → State → State → Prop} {free : Addr → Prop} {Ts : List Cond} {own C : String} {b : Addr} {As rest : List Value} {g : JFrame}
theorem vx_runVX {hh : List (Nat × Nat × Nat × Nat)} (S : CallFix p m c cc nL s args Ts own) (hM : vx_Met l y ws rm Pc Qc XC mc ms free) (cw : vx_CVW R s args own C index y bytes maxL ret hh ws rm mc ms n) (hp : PreV s H C b Pc As)
    (hg : g.method = m) (hn : As.length = n) (hsize : g.locals.size = nL) (hstack : g.stack = As.reverse ++ .ref b :: rest) (hW : 2 * g.monitorRoom + (rest.map fun v => v.category).sum ≤ 8) (hdg : decode cc g.pc = .ok (.invokevirtual index, 3)) (hf : cells + mc ≤ R.cells ∧ slots + ms ≤ R.slots) :
    vx_Run p l e R s m args below meth c H locs cells slots mc ms g rest (Qc (Value.ref b :: As).toArray) XC free := by
  obtain ⟨⟨hrc, hrs, hfr, hlo, hws, hcw⟩, hcode, hini, hy, hlen, hl, hin, hse⟩ := cw
  have hK : vx_Back l R p e below s args y 3 8 (PreOf R mc ms Pc) (PostOf Qc mc ms free) (vx_Post XC mc ms free) := vx_backW (hh := hh) (bytes := bytes) (maxL := maxL) (ret := ret) hM hp.1 hrc hrs hfr hlo hws hcw (fun a' U hW => word_at hW (Or.inl (by first | rfl | simp [Cond.onTables, Cond.keeps, Cond.steady])) hini)
  obtain ⟨hx, hb, hml, ho, -⟩ := S
  obtain ⟨-, ⟨cellB, hcB, hoB, hclB⟩, hPc⟩ := hp
  intro T hT X
  rcases vx_callVX X hx (C := C) (hh := hh) (bytes := bytes) (maxL := maxL) (ret := ret) ho hl hin hse hcode hy hK (by rw [hT]; exact hcB) hoB hclB hg (hsize.trans hml.symm) (argsL := As) (rest := rest) (fun sig h => hn.trans (hlen sig h)) hstack hW (by rw [hb]; exact hdg)
    (fun vm₁ hW₁ => ⟨hf.1, hf.2, hPc (T.setVm vm₁) hT hW₁⟩) with ⟨v, vm₁, ⟨U', l2, c2, s2⟩, hW₁, X', ⟨g', mk, t, L, e1, e2, hq, h1, hL, h2, h3⟩, st⟩ | ⟨q, vm₁, ⟨U', l2, c2, s2⟩, hW₁, X', ⟨g', mk, t, L, E, ce, e1, e2, hq, hce, hcv, hcl, h1, hL, h2, h3⟩, st⟩
  · dsimp only [Pt.U, Pt.locs, Pt.cells, Pt.slots] at X' e1 e2 h1 h2 h3 st
    subst h1; subst h2; subst h3
    exact Or.inl ⟨v, (T.setVm vm₁).calling g' mk (Value.ref b :: As).toArray, t, U', L, hT, X', hL, e1, e2, hq, st⟩
  · dsimp only [Pt.U, Pt.locs, Pt.cells, Pt.slots] at X' e1 e2 h1 h2 h3 st hcl
    subst h1; subst h2; subst h3
    exact Or.inr ⟨q, (T.setVm vm₁).calling g' mk (Value.ref b :: As).toArray, t, U', L, E, ce, hT, X', hL, e1, e2, hq, hce, hcv, vx_cls hW₁ hcl, st⟩
theorem vx_runSX {hh : List (Nat × Nat × Nat × Nat)} (S : CallFix p m c cc nL s args Ts own) (hM : vx_Met l y ws rm Pc Qc XC mc ms free) (cw : vx_CSW R s args own index y bytes maxL ret hh ws rm mc ms n) (hp : PreS s H Pc As)
    (hg : g.method = m) (hn : As.length = n) (hsize : g.locals.size = nL) (hstack : g.stack = As.reverse ++ rest) (hW : 2 * g.monitorRoom + (rest.map fun v => v.category).sum ≤ 8) (hdg : decode cc g.pc = .ok (.invokestatic index, 3)) (hf : cells + mc ≤ R.cells ∧ slots + ms ≤ R.slots) :
    vx_Run p l e R s m args below meth c H locs cells slots mc ms g rest (Qc As.toArray) XC free := by
  obtain ⟨⟨hrc, hrs, hfr, hlo, hws, hcw⟩, hcode, hini, hy, hlen, hl, hstt⟩ := cw
  have hK : vx_Back l R p e below s args y 3 8 (PreOf R mc ms Pc) (PostOf Qc mc ms free) (vx_Post XC mc ms free) := vx_backW (hh := hh) (bytes := bytes) (maxL := maxL) (ret := ret) hM hp.1 hrc hrs hfr hlo hws hcw (fun a' U hW => word_at hW (Or.inl (by first | rfl | simp [Cond.onTables, Cond.keeps, Cond.steady])) hini)
  obtain ⟨hx, hb, hml, ho, -⟩ := S
  intro T hT X
  rcases vx_callSX X hx (hh := hh) (bytes := bytes) (maxL := maxL) (ret := ret) ho hl hstt hini hcode hy hK hg (hsize.trans hml.symm) (argsL := As) (rest := rest) (fun sig h => hn.trans (hlen sig h)) hstack hW (by rw [hb]; exact hdg)
    (fun vm₁ hW₁ => ⟨hf.1, hf.2, hp.2 (T.setVm vm₁) hT hW₁⟩) with ⟨v, vm₁, ⟨U', l2, c2, s2⟩, hW₁, X', ⟨g', mk, t, L, e1, e2, hq, h1, hL, h2, h3⟩, st⟩ | ⟨q, vm₁, ⟨U', l2, c2, s2⟩, hW₁, X', ⟨g', mk, t, L, E, ce, e1, e2, hq, hce, hcv, hcl, h1, hL, h2, h3⟩, st⟩
  · dsimp only [Pt.U, Pt.locs, Pt.cells, Pt.slots] at X' e1 e2 h1 h2 h3 st
    subst h1; subst h2; subst h3
    exact Or.inl ⟨v, (T.setVm vm₁).calling g' mk As.toArray, t, U', L, hT, X', hL, e1, e2, hq, st⟩
  · dsimp only [Pt.U, Pt.locs, Pt.cells, Pt.slots] at X' e1 e2 h1 h2 h3 st hcl
    subst h1; subst h2; subst h3
    exact Or.inr ⟨q, (T.setVm vm₁).calling g' mk As.toArray, t, U', L, E, ce, hT, X', hL, e1, e2, hq, hce, hcv, vx_cls hW₁ hcl, st⟩
end
end VXH
theorem vx_ofWH {l : Launch} {y : MethodName} {ws ws' : List Cond} {rm : Room} {Pc : Array Value → State → Prop} {Qc : Array Value → State → Outcome → State → Prop} {XC : String → State → State → Prop} {mc ms : Nat} {free : Addr → Prop} {cc : ByteArray} {maxL : Nat} {ret : Option FieldType} {hh : List (Nat × Nat × Nat × Nat)}
    (hy : plainName y.cls = true) (hw : ws = Cond.codeWith y cc maxL ret hh :: ws')
    (body : ∀ p e s m args below meth c s₁, BodyLoose p l y (headSpec ws rm) cc maxL ret e s m args below meth c s₁ → c.maxLocals = maxL → Pc args s →
      W p l e (headSpec ws rm).room s m args below meth c s.heap [] 0 0 (vx_MQ below Qc XC args s mc ms free) (entryFrame m args maxL)) : vx_Met l y ws rm Pc Qc XC mc ms free := by
  refine MetFree.of_bodyS (code := cc) (maxLocals := maxL) (ret := ret) hy ?_ ?_
  · intro args s m h hn
    obtain ⟨m9, meth, c, hn9, h1, h2, h3, h4, -, h5, h6, -⟩ := Cond.codeWith_spec (atoms_spec (ws := ws) h _ (by rw [hw]; exact List.mem_cons_self))
    cases hn.symm.trans hn9
    exact ⟨meth, c, h1, h2, h3, h4, h5, h6⟩
  · intro p e s m args below meth c s₁ B hml hP _
    have hh0 : s₁.heap = s.heap := by rw [B.state]; rfl
    obtain ⟨t, a1, o, b1, b2, b3⟩ := body p e s m args below meth c s₁ B hml hP s₁ hh0 (Stand.of_body B)
    exact ⟨t, o, a1, b1, b2, b3⟩
/-! ===== END ===== -/
end
section
/-! ===== BEGIN printed: names, fields, word lists, decode rows ===== -/
def RX0 : String := "CashAllocator$BillBook"
def TX0 : u_T := fun k => match k with
  | 0 => ("CashAllocator$BillBook", "customer", "[I", true)
  | 1 => ("CashAllocator$BillBook", "amount", "[I", true)
  | 2 => ("CashAllocator$BillBook", "reference", "[I", true)
  | 3 => ("CashAllocator$BillBook", "discount", "[I", true)
  | 4 => ("CashAllocator$BillBook", "lastDiscountDay", "[I", true)
  | 5 => ("CashAllocator$BillBook", "paid", "[I", true)
  | 6 => ("CashAllocator$BillBook", "taken", "[I", true)
  | 7 => ("CashAllocator$BillBook", "takenBy", "[I", true)
  | 8 => ("CashAllocator$BillBook", "disputed", "[I", true)
  | 9 => ("CashAllocator$BillBook", "disputedBy", "[I", true)
  | 10 => ("CashAllocator$BillBook", "writtenOff", "[I", true)
  | _ => ("CashAllocator$BillBook", "count", "I", false)
def tyX0 : Nat → FieldType := fun k => match k with
  | 0 => .array .int
  | 1 => .array .int
  | 2 => .array .int
  | 3 => .array .int
  | 4 => .array .int
  | 5 => .array .int
  | 6 => .array .int
  | 7 => .array .int
  | 8 => .array .int
  | 9 => .array .int
  | 10 => .array .int
  | _ => .int
abbrev wsX00 : List Cond := u_ws RX0 TX0 12
abbrev cX0_init : ByteArray := prog_2_method_1_code
def yX0_init : MethodName := ⟨RX0, "<init>", "()V"⟩
abbrev cX0_add : ByteArray := prog_2_method_2_code
def yX0_add : MethodName := ⟨RX0, "add", "(IIIII)I"⟩
abbrev cX0_openSum : ByteArray := prog_2_method_3_code
def yX0_openSum : MethodName := ⟨RX0, "openSum", "(I)I"⟩
abbrev cX0_isOpenFor : ByteArray := prog_2_method_4_code
def yX0_isOpenFor : MethodName := ⟨RX0, "isOpenFor", "(II)Z"⟩
abbrev cX0_allowsDiscount : ByteArray := prog_2_method_5_code
def yX0_allowsDiscount : MethodName := ⟨RX0, "allowsDiscount", "(II)Z"⟩
abbrev cX0_dueOn : ByteArray := prog_2_method_6_code
def yX0_dueOn : MethodName := ⟨RX0, "dueOn", "(II)I"⟩
abbrev cX0_customerNamedBy : ByteArray := prog_2_method_7_code
def yX0_customerNamedBy : MethodName := ⟨RX0, "customerNamedBy", "(I)I"⟩
abbrev cX0_takeDiscount : ByteArray := prog_2_method_8_code
def yX0_takeDiscount : MethodName := ⟨RX0, "takeDiscount", "(III)V"⟩
abbrev cX0_disputeRest : ByteArray := prog_2_method_9_code
def yX0_disputeRest : MethodName := ⟨RX0, "disputeRest", "(II)V"⟩
abbrev cX0_endDispute : ByteArray := prog_2_method_10_code
def yX0_endDispute : MethodName := ⟨RX0, "endDispute", "(IZ)I"⟩
abbrev cX0_undo : ByteArray := prog_2_method_11_code
def yX0_undo : MethodName := ⟨RX0, "undo", "(III)V"⟩
def RX1 : String := "CashAllocator$ExactSet"
def TX1 : u_T := fun k => match k with
  | 0 => ("CashAllocator$ExactSet", "offered", "[I", true)
  | 1 => ("CashAllocator$ExactSet", "dues", "[I", true)
  | 2 => ("CashAllocator$ExactSet", "chosen", "[I", true)
  | _ => ("CashAllocator$ExactSet", "count", "I", false)
def tyX1 : Nat → FieldType := fun k => match k with
  | 0 => .array .int
  | 1 => .array .int
  | 2 => .array .int
  | _ => .int
abbrev wsX10 : List Cond := u_ws RX1 TX1 4
abbrev cX1_init : ByteArray := prog_3_method_1_code
def yX1_init : MethodName := ⟨RX1, "<init>", "()V"⟩
abbrev cX1_clear : ByteArray := prog_3_method_2_code
def yX1_clear : MethodName := ⟨RX1, "clear", "()V"⟩
abbrev cX1_offer : ByteArray := prog_3_method_3_code
def yX1_offer : MethodName := ⟨RX1, "offer", "(II)V"⟩
abbrev cX1_choose : ByteArray := prog_3_method_4_code
def yX1_choose : MethodName := ⟨RX1, "choose", "(I)V"⟩
abbrev cX1_chooseOne : ByteArray := prog_3_method_5_code
def yX1_chooseOne : MethodName := ⟨RX1, "chooseOne", "(I)Z"⟩
abbrev cX1_chooseTwo : ByteArray := prog_3_method_6_code
def yX1_chooseTwo : MethodName := ⟨RX1, "chooseTwo", "(I)Z"⟩
abbrev cX1_chooseThree : ByteArray := prog_3_method_7_code
def yX1_chooseThree : MethodName := ⟨RX1, "chooseThree", "(I)V"⟩
abbrev cX1_find : ByteArray := prog_3_method_8_code
def yX1_find : MethodName := ⟨RX1, "find", "(II)I"⟩
def RX2 : String := "CashAllocator$ReceiptBook"
def TX2 : u_T := fun k => match k with
  | 0 => ("CashAllocator$ReceiptBook", "customer", "[I", true)
  | 1 => ("CashAllocator$ReceiptBook", "amount", "[I", true)
  | 2 => ("CashAllocator$ReceiptBook", "applied", "[I", true)
  | 3 => ("CashAllocator$ReceiptBook", "unapplied", "[I", true)
  | 4 => ("CashAllocator$ReceiptBook", "paidBack", "[I", true)
  | 5 => ("CashAllocator$ReceiptBook", "isBounced", "[Z", true)
  | 6 => ("CashAllocator$ReceiptBook", "sums", "[I", true)
  | 7 => ("CashAllocator$ReceiptBook", "hasSum", "[Z", true)
  | _ => ("CashAllocator$ReceiptBook", "count", "I", false)
def tyX2 : Nat → FieldType := fun k => match k with
  | 0 => .array .int
  | 1 => .array .int
  | 2 => .array .int
  | 3 => .array .int
  | 4 => .array .int
  | 5 => .array .boolean
  | 6 => .array .int
  | 7 => .array .boolean
  | _ => .int
abbrev wsX20 : List Cond := u_ws RX2 TX2 9
abbrev cX2_init : ByteArray := prog_4_method_1_code
def yX2_init : MethodName := ⟨RX2, "<init>", "()V"⟩
abbrev cX2_add : ByteArray := prog_4_method_2_code
def yX2_add : MethodName := ⟨RX2, "add", "(II)I"⟩
abbrev cX2_cell : ByteArray := prog_4_method_3_code
def yX2_cell : MethodName := ⟨RX2, "cell", "(II)I"⟩
abbrev cX2_hasPaid : ByteArray := prog_4_method_4_code
def yX2_hasPaid : MethodName := ⟨RX2, "hasPaid", "(II)Z"⟩
abbrev cX2_paidOf : ByteArray := prog_4_method_5_code
def yX2_paidOf : MethodName := ⟨RX2, "paidOf", "(II)I"⟩
abbrev cX2_addPayment : ByteArray := prog_4_method_6_code
def yX2_addPayment : MethodName := ⟨RX2, "addPayment", "(III)V"⟩
abbrev cX2_dropPayment : ByteArray := prog_4_method_7_code
def yX2_dropPayment : MethodName := ⟨RX2, "dropPayment", "(II)V"⟩
abbrev cX2_markBounced : ByteArray := prog_4_method_8_code
def yX2_markBounced : MethodName := ⟨RX2, "markBounced", "(I)V"⟩
abbrev cX2_payBackRest : ByteArray := prog_4_method_9_code
def yX2_payBackRest : MethodName := ⟨RX2, "payBackRest", "(I)I"⟩
abbrev cX2_totalOf : ByteArray := prog_4_method_10_code
def yX2_totalOf : MethodName := ⟨RX2, "totalOf", "([I)I"⟩
abbrev cX2_bouncedTotal : ByteArray := prog_4_method_11_code
def yX2_bouncedTotal : MethodName := ⟨RX2, "bouncedTotal", "()I"⟩
def RX3 : String := "CashAllocator"
def TX3 : u_T := fun k => match k with
  | 0 => ("CashAllocator", "billBook", "LCashAllocator$BillBook;", true)
  | 1 => ("CashAllocator", "receiptBook", "LCashAllocator$ReceiptBook;", true)
  | 2 => ("CashAllocator", "exactSet", "LCashAllocator$ExactSet;", true)
  | _ => ("CashAllocator", "today", "I", false)
def tyX3 : Nat → FieldType := fun k => match k with
  | 0 => .object "CashAllocator$BillBook"
  | 1 => .object "CashAllocator$ReceiptBook"
  | 2 => .object "CashAllocator$ExactSet"
  | _ => .int
abbrev wsX30 : List Cond := u_ws RX3 TX3 4
abbrev cX3_init : ByteArray := prog_1_method_1_code
def yX3_init : MethodName := ⟨RX3, "<init>", "()V"⟩
abbrev cX3_bill : ByteArray := prog_1_method_2_code
def yX3_bill : MethodName := ⟨RX3, "bill", "(IIIII)I"⟩
abbrev cX3_receive : ByteArray := prog_1_method_3_code
def yX3_receive : MethodName := ⟨RX3, "receive", "(III)I"⟩
abbrev cX3_assign : ByteArray := prog_1_method_4_code
def yX3_assign : MethodName := ⟨RX3, "assign", "(II)I"⟩
abbrev cX3_apply : ByteArray := prog_1_method_5_code
def yX3_apply : MethodName := ⟨RX3, "apply", "(I)I"⟩
abbrev cX3_payBack : ByteArray := prog_1_method_6_code
def yX3_payBack : MethodName := ⟨RX3, "payBack", "(I)I"⟩
abbrev cX3_bounce : ByteArray := prog_1_method_7_code
def yX3_bounce : MethodName := ⟨RX3, "bounce", "(I)I"⟩
abbrev cX3_settle : ByteArray := prog_1_method_8_code
def yX3_settle : MethodName := ⟨RX3, "settle", "(IZ)I"⟩
abbrev cX3_advance : ByteArray := prog_1_method_9_code
def yX3_advance : MethodName := ⟨RX3, "advance", "(I)I"⟩
abbrev cX3_bills : ByteArray := prog_1_method_10_code
def yX3_bills : MethodName := ⟨RX3, "bills", "()I"⟩
abbrev cX3_open : ByteArray := prog_1_method_11_code
def yX3_open : MethodName := ⟨RX3, "open", "(I)I"⟩
abbrev cX3_due : ByteArray := prog_1_method_12_code
def yX3_due : MethodName := ⟨RX3, "due", "(I)I"⟩
abbrev cX3_paid : ByteArray := prog_1_method_13_code
def yX3_paid : MethodName := ⟨RX3, "paid", "(I)I"⟩
abbrev cX3_taken : ByteArray := prog_1_method_14_code
def yX3_taken : MethodName := ⟨RX3, "taken", "(I)I"⟩
abbrev cX3_disputed : ByteArray := prog_1_method_15_code
def yX3_disputed : MethodName := ⟨RX3, "disputed", "(I)I"⟩
abbrev cX3_writtenOff : ByteArray := prog_1_method_16_code
def yX3_writtenOff : MethodName := ⟨RX3, "writtenOff", "(I)I"⟩
abbrev cX3_openOf : ByteArray := prog_1_method_17_code
def yX3_openOf : MethodName := ⟨RX3, "openOf", "(I)I"⟩
abbrev cX3_setFor : ByteArray := prog_1_method_18_code
def yX3_setFor : MethodName := ⟨RX3, "setFor", "(III)I"⟩
abbrev cX3_receipts : ByteArray := prog_1_method_19_code
def yX3_receipts : MethodName := ⟨RX3, "receipts", "()I"⟩
abbrev cX3_customerOf : ByteArray := prog_1_method_20_code
def yX3_customerOf : MethodName := ⟨RX3, "customerOf", "(I)I"⟩
abbrev cX3_appliedTo : ByteArray := prog_1_method_21_code
def yX3_appliedTo : MethodName := ⟨RX3, "appliedTo", "(II)I"⟩
abbrev cX3_unapplied : ByteArray := prog_1_method_22_code
def yX3_unapplied : MethodName := ⟨RX3, "unapplied", "(I)I"⟩
abbrev cX3_hasBounced : ByteArray := prog_1_method_23_code
def yX3_hasBounced : MethodName := ⟨RX3, "hasBounced", "(I)Z"⟩
abbrev cX3_day : ByteArray := prog_1_method_24_code
def yX3_day : MethodName := ⟨RX3, "day", "()I"⟩
abbrev cX3_received : ByteArray := prog_1_method_25_code
def yX3_received : MethodName := ⟨RX3, "received", "()I"⟩
abbrev cX3_applied : ByteArray := prog_1_method_26_code
def yX3_applied : MethodName := ⟨RX3, "applied", "()I"⟩
abbrev cX3_allUnapplied : ByteArray := prog_1_method_27_code
def yX3_allUnapplied : MethodName := ⟨RX3, "allUnapplied", "()I"⟩
abbrev cX3_paidBack : ByteArray := prog_1_method_28_code
def yX3_paidBack : MethodName := ⟨RX3, "paidBack", "()I"⟩
abbrev cX3_bounced : ByteArray := prog_1_method_29_code
def yX3_bounced : MethodName := ⟨RX3, "bounced", "()I"⟩
abbrev cX3_payNamedBills : ByteArray := prog_1_method_30_code
def yX3_payNamedBills : MethodName := ⟨RX3, "payNamedBills", "(II)V"⟩
abbrev cX3_payOtherBills : ByteArray := prog_1_method_31_code
def yX3_payOtherBills : MethodName := ⟨RX3, "payOtherBills", "(I)V"⟩
abbrev cX3_payExactSet : ByteArray := prog_1_method_32_code
def yX3_payExactSet : MethodName := ⟨RX3, "payExactSet", "(I)V"⟩
abbrev cX3_payOldestBills : ByteArray := prog_1_method_33_code
def yX3_payOldestBills : MethodName := ⟨RX3, "payOldestBills", "(I)V"⟩
abbrev cX3_payBill : ByteArray := prog_1_method_34_code
def yX3_payBill : MethodName := ⟨RX3, "payBill", "(II)Z"⟩
abbrev cX3_chooseExactSet : ByteArray := prog_1_method_35_code
def yX3_chooseExactSet : MethodName := ⟨RX3, "chooseExactSet", "(II)V"⟩
abbrev cX3_requireCustomer : ByteArray := prog_1_method_36_code
def yX3_requireCustomer : MethodName := ⟨RX3, "requireCustomer", "(I)V"⟩
abbrev cX3_requireBill : ByteArray := prog_1_method_37_code
def yX3_requireBill : MethodName := ⟨RX3, "requireBill", "(I)V"⟩
abbrev cX3_requireReceipt : ByteArray := prog_1_method_38_code
def yX3_requireReceipt : MethodName := ⟨RX3, "requireReceipt", "(I)V"⟩
abbrev cX3_requireNotBounced : ByteArray := prog_1_method_39_code
def yX3_requireNotBounced : MethodName := ⟨RX3, "requireNotBounced", "(I)V"⟩
abbrev cX3_requireWithin : ByteArray := prog_1_method_40_code
def yX3_requireWithin : MethodName := ⟨RX3, "requireWithin", "(III)V"⟩
abbrev cX3_discountOf : ByteArray := prog_1_method_41_code
def yX3_discountOf : MethodName := ⟨RX3, "discountOf", "(II)I"⟩
def RX4 : String := "CashAllocatorModel"
def TX4 : u_T := fun k => match k with
  | 0 => ("CashAllocatorModel", "refusal", "I", false)
  | 1 => ("CashAllocatorModel", "day", "I", false)
  | 2 => ("CashAllocatorModel", "bills", "I", false)
  | 3 => ("CashAllocatorModel", "owners", "[I", true)
  | 4 => ("CashAllocatorModel", "amounts", "[I", true)
  | 5 => ("CashAllocatorModel", "references", "[I", true)
  | 6 => ("CashAllocatorModel", "days", "[I", true)
  | 7 => ("CashAllocatorModel", "rates", "[I", true)
  | 8 => ("CashAllocatorModel", "spans", "[I", true)
  | 9 => ("CashAllocatorModel", "paidOf", "[I", true)
  | 10 => ("CashAllocatorModel", "takenOf", "[I", true)
  | 11 => ("CashAllocatorModel", "takers", "[I", true)
  | 12 => ("CashAllocatorModel", "disputedOf", "[I", true)
  | 13 => ("CashAllocatorModel", "raisers", "[I", true)
  | 14 => ("CashAllocatorModel", "writtenOf", "[I", true)
  | 15 => ("CashAllocatorModel", "receipts", "I", false)
  | 16 => ("CashAllocatorModel", "sums", "[I", true)
  | 17 => ("CashAllocatorModel", "payers", "[I", true)
  | 18 => ("CashAllocatorModel", "left", "[I", true)
  | 19 => ("CashAllocatorModel", "backs", "[I", true)
  | 20 => ("CashAllocatorModel", "isBounced", "[Z", true)
  | 21 => ("CashAllocatorModel", "paidBy", "[I", true)
  | 22 => ("CashAllocatorModel", "hasPaid", "[Z", true)
  | _ => ("CashAllocatorModel", "chosen", "[I", true)
def tyX4 : Nat → FieldType := fun k => match k with
  | 0 => .int
  | 1 => .int
  | 2 => .int
  | 3 => .array .int
  | 4 => .array .int
  | 5 => .array .int
  | 6 => .array .int
  | 7 => .array .int
  | 8 => .array .int
  | 9 => .array .int
  | 10 => .array .int
  | 11 => .array .int
  | 12 => .array .int
  | 13 => .array .int
  | 14 => .array .int
  | 15 => .int
  | 16 => .array .int
  | 17 => .array .int
  | 18 => .array .int
  | 19 => .array .int
  | 20 => .array .boolean
  | 21 => .array .int
  | 22 => .array .boolean
  | _ => .array .int
abbrev wsX40 : List Cond := u_ws RX4 TX4 24
abbrev cX4_init : ByteArray := prog_6_method_1_code
def yX4_init : MethodName := ⟨RX4, "<init>", "()V"⟩
abbrev cX4_thrown : ByteArray := prog_6_method_2_code
def yX4_thrown : MethodName := ⟨RX4, "thrown", "()I"⟩
abbrev cX4_refused : ByteArray := prog_6_method_3_code
def yX4_refused : MethodName := ⟨RX4, "refused", "(I)Z"⟩
abbrev cX4_fine : ByteArray := prog_6_method_4_code
def yX4_fine : MethodName := ⟨RX4, "fine", "(I)I"⟩
abbrev cX4_in : ByteArray := prog_6_method_5_code
def yX4_in : MethodName := ⟨RX4, "in", "(III)Z"⟩
abbrev cX4_isCustomer : ByteArray := prog_6_method_6_code
def yX4_isCustomer : MethodName := ⟨RX4, "isCustomer", "(I)Z"⟩
abbrev cX4_isBill : ByteArray := prog_6_method_7_code
def yX4_isBill : MethodName := ⟨RX4, "isBill", "(I)Z"⟩
abbrev cX4_isReceipt : ByteArray := prog_6_method_8_code
def yX4_isReceipt : MethodName := ⟨RX4, "isReceipt", "(I)Z"⟩
abbrev cX4_openNow : ByteArray := prog_6_method_9_code
def yX4_openNow : MethodName := ⟨RX4, "openNow", "(I)I"⟩
abbrev cX4_discount : ByteArray := prog_6_method_10_code
def yX4_discount : MethodName := ⟨RX4, "discount", "(I)I"⟩
abbrev cX4_dueNow : ByteArray := prog_6_method_11_code
def yX4_dueNow : MethodName := ⟨RX4, "dueNow", "(I)I"⟩
abbrev cX4_pay : ByteArray := prog_6_method_12_code
def yX4_pay : MethodName := ⟨RX4, "pay", "(II)Z"⟩
abbrev cX4_payNamed : ByteArray := prog_6_method_13_code
def yX4_payNamed : MethodName := ⟨RX4, "payNamed", "(II)V"⟩
abbrev cX4_dispute : ByteArray := prog_6_method_14_code
def yX4_dispute : MethodName := ⟨RX4, "dispute", "(II)V"⟩
abbrev cX4_dueOf : ByteArray := prog_6_method_15_code
def yX4_dueOf : MethodName := ⟨RX4, "dueOf", "(II)I"⟩
abbrev cX4_choose : ByteArray := prog_6_method_16_code
def yX4_choose : MethodName := ⟨RX4, "choose", "(IJ)I"⟩
abbrev cX4_payOthers : ByteArray := prog_6_method_17_code
def yX4_payOthers : MethodName := ⟨RX4, "payOthers", "(I)V"⟩
abbrev cX4_bill : ByteArray := prog_6_method_18_code
def yX4_bill : MethodName := ⟨RX4, "bill", "(IIIII)I"⟩
abbrev cX4_receive : ByteArray := prog_6_method_19_code
def yX4_receive : MethodName := ⟨RX4, "receive", "(III)I"⟩
abbrev cX4_assign : ByteArray := prog_6_method_20_code
def yX4_assign : MethodName := ⟨RX4, "assign", "(II)I"⟩
abbrev cX4_apply : ByteArray := prog_6_method_21_code
def yX4_apply : MethodName := ⟨RX4, "apply", "(I)I"⟩
abbrev cX4_payBack : ByteArray := prog_6_method_22_code
def yX4_payBack : MethodName := ⟨RX4, "payBack", "(I)I"⟩
abbrev cX4_bounce : ByteArray := prog_6_method_23_code
def yX4_bounce : MethodName := ⟨RX4, "bounce", "(I)I"⟩
abbrev cX4_settle : ByteArray := prog_6_method_24_code
def yX4_settle : MethodName := ⟨RX4, "settle", "(IZ)I"⟩
abbrev cX4_advance : ByteArray := prog_6_method_25_code
def yX4_advance : MethodName := ⟨RX4, "advance", "(I)I"⟩
abbrev cX4_bills : ByteArray := prog_6_method_26_code
def yX4_bills : MethodName := ⟨RX4, "bills", "()I"⟩
abbrev cX4_noBill : ByteArray := prog_6_method_27_code
def yX4_noBill : MethodName := ⟨RX4, "noBill", "(I)Z"⟩
abbrev cX4_open : ByteArray := prog_6_method_28_code
def yX4_open : MethodName := ⟨RX4, "open", "(I)I"⟩
abbrev cX4_due : ByteArray := prog_6_method_29_code
def yX4_due : MethodName := ⟨RX4, "due", "(I)I"⟩
abbrev cX4_paid : ByteArray := prog_6_method_30_code
def yX4_paid : MethodName := ⟨RX4, "paid", "(I)I"⟩
abbrev cX4_taken : ByteArray := prog_6_method_31_code
def yX4_taken : MethodName := ⟨RX4, "taken", "(I)I"⟩
abbrev cX4_disputed : ByteArray := prog_6_method_32_code
def yX4_disputed : MethodName := ⟨RX4, "disputed", "(I)I"⟩
abbrev cX4_writtenOff : ByteArray := prog_6_method_33_code
def yX4_writtenOff : MethodName := ⟨RX4, "writtenOff", "(I)I"⟩
abbrev cX4_openOf : ByteArray := prog_6_method_34_code
def yX4_openOf : MethodName := ⟨RX4, "openOf", "(I)I"⟩
abbrev cX4_setFor : ByteArray := prog_6_method_35_code
def yX4_setFor : MethodName := ⟨RX4, "setFor", "(III)I"⟩
abbrev cX4_receipts : ByteArray := prog_6_method_36_code
def yX4_receipts : MethodName := ⟨RX4, "receipts", "()I"⟩
abbrev cX4_noReceipt : ByteArray := prog_6_method_37_code
def yX4_noReceipt : MethodName := ⟨RX4, "noReceipt", "(I)Z"⟩
abbrev cX4_customerOf : ByteArray := prog_6_method_38_code
def yX4_customerOf : MethodName := ⟨RX4, "customerOf", "(I)I"⟩
abbrev cX4_appliedTo : ByteArray := prog_6_method_39_code
def yX4_appliedTo : MethodName := ⟨RX4, "appliedTo", "(II)I"⟩
abbrev cX4_unapplied : ByteArray := prog_6_method_40_code
def yX4_unapplied : MethodName := ⟨RX4, "unapplied", "(I)I"⟩
abbrev cX4_hasBounced : ByteArray := prog_6_method_41_code
def yX4_hasBounced : MethodName := ⟨RX4, "hasBounced", "(I)Z"⟩
abbrev cX4_day : ByteArray := prog_6_method_42_code
def yX4_day : MethodName := ⟨RX4, "day", "()I"⟩
abbrev cX4_all : ByteArray := prog_6_method_43_code
def yX4_all : MethodName := ⟨RX4, "all", "([I)I"⟩
abbrev cX4_allBounced : ByteArray := prog_6_method_44_code
def yX4_allBounced : MethodName := ⟨RX4, "allBounced", "()I"⟩
abbrev cX4_received : ByteArray := prog_6_method_45_code
def yX4_received : MethodName := ⟨RX4, "received", "()I"⟩
abbrev cX4_applied : ByteArray := prog_6_method_46_code
def yX4_applied : MethodName := ⟨RX4, "applied", "()I"⟩
abbrev cX4_allUnapplied : ByteArray := prog_6_method_47_code
def yX4_allUnapplied : MethodName := ⟨RX4, "allUnapplied", "()I"⟩
abbrev cX4_paidBack : ByteArray := prog_6_method_48_code
def yX4_paidBack : MethodName := ⟨RX4, "paidBack", "()I"⟩
abbrev cX4_bounced : ByteArray := prog_6_method_49_code
def yX4_bounced : MethodName := ⟨RX4, "bounced", "()I"⟩
def RJ0 : String := "java/lang/String"
def TJ0 : u_T := fun k => match k with
  | _ => ("", "", "", false)
def tyJ0 : Nat → FieldType := fun k => match k with
  | _ => .int
abbrev wsJ00 : List Cond := u_ws RJ0 TJ0 0
def RL : String := "CashAllocatorLaw"
abbrev cL_bill : ByteArray := method_3_code
def yL_bill : MethodName := ⟨RL, "bill", "(LCashAllocator;IIIII[J)I"⟩
abbrev cL_receive : ByteArray := method_4_code
def yL_receive : MethodName := ⟨RL, "receive", "(LCashAllocator;III[J)I"⟩
abbrev cL_assign : ByteArray := method_5_code
def yL_assign : MethodName := ⟨RL, "assign", "(LCashAllocator;II[J)I"⟩
abbrev cL_apply : ByteArray := method_6_code
def yL_apply : MethodName := ⟨RL, "apply", "(LCashAllocator;I[J)I"⟩
abbrev cL_payBack : ByteArray := method_7_code
def yL_payBack : MethodName := ⟨RL, "payBack", "(LCashAllocator;I[J)I"⟩
abbrev cL_bounce : ByteArray := method_8_code
def yL_bounce : MethodName := ⟨RL, "bounce", "(LCashAllocator;I[J)I"⟩
abbrev cL_settle : ByteArray := method_9_code
def yL_settle : MethodName := ⟨RL, "settle", "(LCashAllocator;IZ[J)I"⟩
abbrev cL_advance : ByteArray := method_10_code
def yL_advance : MethodName := ⟨RL, "advance", "(LCashAllocator;I[J)I"⟩
abbrev cL_open : ByteArray := method_11_code
def yL_open : MethodName := ⟨RL, "open", "(LCashAllocator;I[J)I"⟩
abbrev cL_due : ByteArray := method_12_code
def yL_due : MethodName := ⟨RL, "due", "(LCashAllocator;I[J)I"⟩
abbrev cL_paid : ByteArray := method_13_code
def yL_paid : MethodName := ⟨RL, "paid", "(LCashAllocator;I[J)I"⟩
abbrev cL_taken : ByteArray := method_14_code
def yL_taken : MethodName := ⟨RL, "taken", "(LCashAllocator;I[J)I"⟩
abbrev cL_disputed : ByteArray := method_15_code
def yL_disputed : MethodName := ⟨RL, "disputed", "(LCashAllocator;I[J)I"⟩
abbrev cL_writtenOff : ByteArray := method_16_code
def yL_writtenOff : MethodName := ⟨RL, "writtenOff", "(LCashAllocator;I[J)I"⟩
abbrev cL_openOf : ByteArray := method_17_code
def yL_openOf : MethodName := ⟨RL, "openOf", "(LCashAllocator;I[J)I"⟩
abbrev cL_setFor : ByteArray := method_18_code
def yL_setFor : MethodName := ⟨RL, "setFor", "(LCashAllocator;III[J)I"⟩
abbrev cL_customerOf : ByteArray := method_19_code
def yL_customerOf : MethodName := ⟨RL, "customerOf", "(LCashAllocator;I[J)I"⟩
abbrev cL_appliedTo : ByteArray := method_20_code
def yL_appliedTo : MethodName := ⟨RL, "appliedTo", "(LCashAllocator;II[J)I"⟩
abbrev cL_unapplied : ByteArray := method_21_code
def yL_unapplied : MethodName := ⟨RL, "unapplied", "(LCashAllocator;I[J)I"⟩
abbrev cL_hasBounced : ByteArray := method_22_code
def yL_hasBounced : MethodName := ⟨RL, "hasBounced", "(LCashAllocator;I[J)I"⟩
abbrev cL_law : ByteArray := code
def yL_law : MethodName := ⟨RL, "law", "([I)Z"⟩
def wsX0_init : List Cond := .code yX0_init cX0_init 1 none :: ([.methodLink RX0 3 objectInit, .instanceMethod objectInit, .code objectInit ⟨#[0xb1]⟩ 1 none, .arrayClass .int, .fieldLink RX0 9 "CashAllocator$BillBook" "customer" "[I", .fieldLink RX0 15 "CashAllocator$BillBook" "amount" "[I", .fieldLink RX0 18 "CashAllocator$BillBook" "reference" "[I", .fieldLink RX0 21 "CashAllocator$BillBook" "discount" "[I", .fieldLink RX0 24 "CashAllocator$BillBook" "lastDiscountDay" "[I", .fieldLink RX0 27 "CashAllocator$BillBook" "paid" "[I", .fieldLink RX0 30 "CashAllocator$BillBook" "taken" "[I", .fieldLink RX0 33 "CashAllocator$BillBook" "takenBy" "[I", .fieldLink RX0 36 "CashAllocator$BillBook" "disputed" "[I", .fieldLink RX0 39 "CashAllocator$BillBook" "disputedBy" "[I", .fieldLink RX0 42 "CashAllocator$BillBook" "writtenOff" "[I"] ++ wsX00)
def wsX0_add : List Cond := .code yX0_add cX0_add 7 (some .int) :: ([.fieldLink RX0 45 "CashAllocator$BillBook" "count" "I", .fieldLink RX0 9 "CashAllocator$BillBook" "customer" "[I", .fieldLink RX0 15 "CashAllocator$BillBook" "amount" "[I", .fieldLink RX0 18 "CashAllocator$BillBook" "reference" "[I", .fieldLink RX0 21 "CashAllocator$BillBook" "discount" "[I", .fieldLink RX0 24 "CashAllocator$BillBook" "lastDiscountDay" "[I", .fieldLink RX0 33 "CashAllocator$BillBook" "takenBy" "[I", .fieldLink RX0 39 "CashAllocator$BillBook" "disputedBy" "[I"] ++ wsX00)
def wsX0_openSum : List Cond := .code yX0_openSum cX0_openSum 2 (some .int) :: ([.fieldLink RX0 15 "CashAllocator$BillBook" "amount" "[I", .fieldLink RX0 27 "CashAllocator$BillBook" "paid" "[I", .fieldLink RX0 30 "CashAllocator$BillBook" "taken" "[I", .fieldLink RX0 36 "CashAllocator$BillBook" "disputed" "[I", .fieldLink RX0 42 "CashAllocator$BillBook" "writtenOff" "[I"] ++ wsX00)
def wsX0_isOpenFor : List Cond := .code yX0_isOpenFor cX0_isOpenFor 3 (some .boolean) :: ([.fieldLink RX0 9 "CashAllocator$BillBook" "customer" "[I", .methodLink RX0 49 yX0_openSum, .instanceMethod yX0_openSum, .selects RX0 yX0_openSum yX0_openSum, .initialized RX0, .code yX0_openSum cX0_openSum 2 (some .int), .fieldLink RX0 15 "CashAllocator$BillBook" "amount" "[I", .fieldLink RX0 27 "CashAllocator$BillBook" "paid" "[I", .fieldLink RX0 30 "CashAllocator$BillBook" "taken" "[I", .fieldLink RX0 36 "CashAllocator$BillBook" "disputed" "[I", .fieldLink RX0 42 "CashAllocator$BillBook" "writtenOff" "[I"] ++ wsX00)
def wsX0_allowsDiscount : List Cond := .code yX0_allowsDiscount cX0_allowsDiscount 3 (some .boolean) :: ([.fieldLink RX0 15 "CashAllocator$BillBook" "amount" "[I", .fieldLink RX0 24 "CashAllocator$BillBook" "lastDiscountDay" "[I", .methodLink RX0 49 yX0_openSum, .instanceMethod yX0_openSum, .selects RX0 yX0_openSum yX0_openSum, .initialized RX0, .code yX0_openSum cX0_openSum 2 (some .int), .fieldLink RX0 27 "CashAllocator$BillBook" "paid" "[I", .fieldLink RX0 30 "CashAllocator$BillBook" "taken" "[I", .fieldLink RX0 36 "CashAllocator$BillBook" "disputed" "[I", .fieldLink RX0 42 "CashAllocator$BillBook" "writtenOff" "[I"] ++ wsX00)
def wsX0_dueOn : List Cond := .code yX0_dueOn cX0_dueOn 4 (some .int) :: ([.fieldLink RX0 21 "CashAllocator$BillBook" "discount" "[I", .methodLink RX0 49 yX0_openSum, .instanceMethod yX0_openSum, .selects RX0 yX0_openSum yX0_openSum, .initialized RX0, .code yX0_openSum cX0_openSum 2 (some .int), .fieldLink RX0 15 "CashAllocator$BillBook" "amount" "[I", .fieldLink RX0 27 "CashAllocator$BillBook" "paid" "[I", .fieldLink RX0 30 "CashAllocator$BillBook" "taken" "[I", .fieldLink RX0 36 "CashAllocator$BillBook" "disputed" "[I", .fieldLink RX0 42 "CashAllocator$BillBook" "writtenOff" "[I", .methodLink RX0 53 yX0_allowsDiscount, .instanceMethod yX0_allowsDiscount, .selects RX0 yX0_allowsDiscount yX0_allowsDiscount, .code yX0_allowsDiscount cX0_allowsDiscount 3 (some .boolean), .fieldLink RX0 24 "CashAllocator$BillBook" "lastDiscountDay" "[I"] ++ wsX00)
def wsX0_customerNamedBy : List Cond := .code yX0_customerNamedBy cX0_customerNamedBy 3 (some .int) :: ([.fieldLink RX0 45 "CashAllocator$BillBook" "count" "I", .fieldLink RX0 18 "CashAllocator$BillBook" "reference" "[I", .fieldLink RX0 9 "CashAllocator$BillBook" "customer" "[I", .methodLink RX0 49 yX0_openSum, .instanceMethod yX0_openSum, .selects RX0 yX0_openSum yX0_openSum, .initialized RX0, .code yX0_openSum cX0_openSum 2 (some .int), .fieldLink RX0 15 "CashAllocator$BillBook" "amount" "[I", .fieldLink RX0 27 "CashAllocator$BillBook" "paid" "[I", .fieldLink RX0 30 "CashAllocator$BillBook" "taken" "[I", .fieldLink RX0 36 "CashAllocator$BillBook" "disputed" "[I", .fieldLink RX0 42 "CashAllocator$BillBook" "writtenOff" "[I"] ++ wsX00)
def wsX0_takeDiscount : List Cond := .code yX0_takeDiscount cX0_takeDiscount 4 none :: ([.fieldLink RX0 30 "CashAllocator$BillBook" "taken" "[I", .fieldLink RX0 21 "CashAllocator$BillBook" "discount" "[I", .fieldLink RX0 33 "CashAllocator$BillBook" "takenBy" "[I", .methodLink RX0 53 yX0_allowsDiscount, .instanceMethod yX0_allowsDiscount, .selects RX0 yX0_allowsDiscount yX0_allowsDiscount, .initialized RX0, .code yX0_allowsDiscount cX0_allowsDiscount 3 (some .boolean), .fieldLink RX0 15 "CashAllocator$BillBook" "amount" "[I", .fieldLink RX0 24 "CashAllocator$BillBook" "lastDiscountDay" "[I", .methodLink RX0 49 yX0_openSum, .instanceMethod yX0_openSum, .selects RX0 yX0_openSum yX0_openSum, .code yX0_openSum cX0_openSum 2 (some .int), .fieldLink RX0 27 "CashAllocator$BillBook" "paid" "[I", .fieldLink RX0 36 "CashAllocator$BillBook" "disputed" "[I", .fieldLink RX0 42 "CashAllocator$BillBook" "writtenOff" "[I"] ++ wsX00)
def wsX0_disputeRest : List Cond := .code yX0_disputeRest cX0_disputeRest 3 none :: ([.fieldLink RX0 36 "CashAllocator$BillBook" "disputed" "[I", .fieldLink RX0 39 "CashAllocator$BillBook" "disputedBy" "[I", .methodLink RX0 49 yX0_openSum, .instanceMethod yX0_openSum, .selects RX0 yX0_openSum yX0_openSum, .initialized RX0, .code yX0_openSum cX0_openSum 2 (some .int), .fieldLink RX0 15 "CashAllocator$BillBook" "amount" "[I", .fieldLink RX0 27 "CashAllocator$BillBook" "paid" "[I", .fieldLink RX0 30 "CashAllocator$BillBook" "taken" "[I", .fieldLink RX0 42 "CashAllocator$BillBook" "writtenOff" "[I"] ++ wsX00)
def wsX0_endDispute : List Cond := .code yX0_endDispute cX0_endDispute 4 (some .int) :: ([.fieldLink RX0 36 "CashAllocator$BillBook" "disputed" "[I", .fieldLink RX0 42 "CashAllocator$BillBook" "writtenOff" "[I", .fieldLink RX0 39 "CashAllocator$BillBook" "disputedBy" "[I"] ++ wsX00)
def wsX0_undo : List Cond := .code yX0_undo cX0_undo 4 none :: ([.fieldLink RX0 27 "CashAllocator$BillBook" "paid" "[I", .fieldLink RX0 33 "CashAllocator$BillBook" "takenBy" "[I", .fieldLink RX0 30 "CashAllocator$BillBook" "taken" "[I", .fieldLink RX0 39 "CashAllocator$BillBook" "disputedBy" "[I", .methodLink RX0 57 yX0_endDispute, .instanceMethod yX0_endDispute, .selects RX0 yX0_endDispute yX0_endDispute, .initialized RX0, .code yX0_endDispute cX0_endDispute 4 (some .int), .fieldLink RX0 36 "CashAllocator$BillBook" "disputed" "[I", .fieldLink RX0 42 "CashAllocator$BillBook" "writtenOff" "[I"] ++ wsX00)
def wsX1_init : List Cond := .code yX1_init cX1_init 1 none :: ([.methodLink RX1 3 objectInit, .instanceMethod objectInit, .code objectInit ⟨#[0xb1]⟩ 1 none, .arrayClass .int, .fieldLink RX1 9 "CashAllocator$ExactSet" "offered" "[I", .fieldLink RX1 15 "CashAllocator$ExactSet" "dues" "[I", .fieldLink RX1 18 "CashAllocator$ExactSet" "chosen" "[I"] ++ wsX10)
def wsX1_clear : List Cond := .code yX1_clear cX1_clear 1 none :: ([.fieldLink RX1 21 "CashAllocator$ExactSet" "count" "I", .fieldLink RX1 18 "CashAllocator$ExactSet" "chosen" "[I"] ++ wsX10)
def wsX1_offer : List Cond := .code yX1_offer cX1_offer 3 none :: ([.fieldLink RX1 21 "CashAllocator$ExactSet" "count" "I", .fieldLink RX1 9 "CashAllocator$ExactSet" "offered" "[I", .fieldLink RX1 15 "CashAllocator$ExactSet" "dues" "[I"] ++ wsX10)
def wsX1_find : List Cond := .code yX1_find cX1_find 4 (some .int) :: ([.fieldLink RX1 21 "CashAllocator$ExactSet" "count" "I", .fieldLink RX1 15 "CashAllocator$ExactSet" "dues" "[I"] ++ wsX10)
def wsX1_chooseOne : List Cond := .code yX1_chooseOne cX1_chooseOne 3 (some .boolean) :: ([.fieldLink RX1 18 "CashAllocator$ExactSet" "chosen" "[I", .fieldLink RX1 9 "CashAllocator$ExactSet" "offered" "[I", .methodLink RX1 36 yX1_find, .instanceMethod yX1_find, .selects RX1 yX1_find yX1_find, .initialized RX1, .code yX1_find cX1_find 4 (some .int), .fieldLink RX1 21 "CashAllocator$ExactSet" "count" "I", .fieldLink RX1 15 "CashAllocator$ExactSet" "dues" "[I"] ++ wsX10)
def wsX1_chooseTwo : List Cond := .code yX1_chooseTwo cX1_chooseTwo 4 (some .boolean) :: ([.fieldLink RX1 21 "CashAllocator$ExactSet" "count" "I", .fieldLink RX1 15 "CashAllocator$ExactSet" "dues" "[I", .fieldLink RX1 18 "CashAllocator$ExactSet" "chosen" "[I", .fieldLink RX1 9 "CashAllocator$ExactSet" "offered" "[I", .methodLink RX1 36 yX1_find, .instanceMethod yX1_find, .selects RX1 yX1_find yX1_find, .initialized RX1, .code yX1_find cX1_find 4 (some .int)] ++ wsX10)
def wsX1_chooseThree : List Cond := .code yX1_chooseThree cX1_chooseThree 5 none :: ([.fieldLink RX1 21 "CashAllocator$ExactSet" "count" "I", .fieldLink RX1 15 "CashAllocator$ExactSet" "dues" "[I", .fieldLink RX1 18 "CashAllocator$ExactSet" "chosen" "[I", .fieldLink RX1 9 "CashAllocator$ExactSet" "offered" "[I", .methodLink RX1 36 yX1_find, .instanceMethod yX1_find, .selects RX1 yX1_find yX1_find, .initialized RX1, .code yX1_find cX1_find 4 (some .int)] ++ wsX10)
def wsX1_choose : List Cond := .code yX1_choose cX1_choose 2 none :: ([.methodLink RX1 25 yX1_chooseOne, .instanceMethod yX1_chooseOne, .selects RX1 yX1_chooseOne yX1_chooseOne, .initialized RX1, .code yX1_chooseOne cX1_chooseOne 3 (some .boolean), .fieldLink RX1 18 "CashAllocator$ExactSet" "chosen" "[I", .fieldLink RX1 9 "CashAllocator$ExactSet" "offered" "[I", .methodLink RX1 36 yX1_find, .instanceMethod yX1_find, .selects RX1 yX1_find yX1_find, .code yX1_find cX1_find 4 (some .int), .fieldLink RX1 21 "CashAllocator$ExactSet" "count" "I", .fieldLink RX1 15 "CashAllocator$ExactSet" "dues" "[I", .methodLink RX1 29 yX1_chooseTwo, .instanceMethod yX1_chooseTwo, .selects RX1 yX1_chooseTwo yX1_chooseTwo, .code yX1_chooseTwo cX1_chooseTwo 4 (some .boolean), .methodLink RX1 32 yX1_chooseThree, .instanceMethod yX1_chooseThree, .selects RX1 yX1_chooseThree yX1_chooseThree, .code yX1_chooseThree cX1_chooseThree 5 none] ++ wsX10)
def wsX2_init : List Cond := .code yX2_init cX2_init 1 none :: ([.methodLink RX2 3 objectInit, .instanceMethod objectInit, .code objectInit ⟨#[0xb1]⟩ 1 none, .arrayClass .int, .fieldLink RX2 9 "CashAllocator$ReceiptBook" "customer" "[I", .fieldLink RX2 15 "CashAllocator$ReceiptBook" "amount" "[I", .fieldLink RX2 18 "CashAllocator$ReceiptBook" "applied" "[I", .fieldLink RX2 21 "CashAllocator$ReceiptBook" "unapplied" "[I", .fieldLink RX2 24 "CashAllocator$ReceiptBook" "paidBack" "[I", .arrayClass .boolean, .fieldLink RX2 27 "CashAllocator$ReceiptBook" "isBounced" "[Z", .fieldLink RX2 31 "CashAllocator$ReceiptBook" "sums" "[I", .fieldLink RX2 34 "CashAllocator$ReceiptBook" "hasSum" "[Z"] ++ wsX20)
def wsX2_add : List Cond := .code yX2_add cX2_add 4 (some .int) :: ([.fieldLink RX2 37 "CashAllocator$ReceiptBook" "count" "I", .fieldLink RX2 9 "CashAllocator$ReceiptBook" "customer" "[I", .fieldLink RX2 15 "CashAllocator$ReceiptBook" "amount" "[I", .fieldLink RX2 21 "CashAllocator$ReceiptBook" "unapplied" "[I"] ++ wsX20)
def wsX2_cell : List Cond := .code yX2_cell cX2_cell 2 (some .int) :: ([])
def wsX2_hasPaid : List Cond := .code yX2_hasPaid cX2_hasPaid 3 (some .boolean) :: ([.fieldLink RX2 34 "CashAllocator$ReceiptBook" "hasSum" "[Z", .methodLink RX2 41 yX2_cell, .static yX2_cell, .initialized RX2, .code yX2_cell cX2_cell 2 (some .int)] ++ wsX20)
def wsX2_paidOf : List Cond := .code yX2_paidOf cX2_paidOf 3 (some .int) :: ([.fieldLink RX2 31 "CashAllocator$ReceiptBook" "sums" "[I", .methodLink RX2 41 yX2_cell, .static yX2_cell, .initialized RX2, .code yX2_cell cX2_cell 2 (some .int)] ++ wsX20)
def wsX2_addPayment : List Cond := .code yX2_addPayment cX2_addPayment 4 none :: ([.fieldLink RX2 31 "CashAllocator$ReceiptBook" "sums" "[I", .fieldLink RX2 34 "CashAllocator$ReceiptBook" "hasSum" "[Z", .fieldLink RX2 18 "CashAllocator$ReceiptBook" "applied" "[I", .fieldLink RX2 21 "CashAllocator$ReceiptBook" "unapplied" "[I", .methodLink RX2 41 yX2_cell, .static yX2_cell, .initialized RX2, .code yX2_cell cX2_cell 2 (some .int)] ++ wsX20)
def wsX2_dropPayment : List Cond := .code yX2_dropPayment cX2_dropPayment 3 none :: ([.fieldLink RX2 18 "CashAllocator$ReceiptBook" "applied" "[I", .fieldLink RX2 31 "CashAllocator$ReceiptBook" "sums" "[I", .fieldLink RX2 34 "CashAllocator$ReceiptBook" "hasSum" "[Z", .methodLink RX2 41 yX2_cell, .static yX2_cell, .initialized RX2, .code yX2_cell cX2_cell 2 (some .int)] ++ wsX20)
def wsX2_markBounced : List Cond := .code yX2_markBounced cX2_markBounced 2 none :: ([.fieldLink RX2 21 "CashAllocator$ReceiptBook" "unapplied" "[I", .fieldLink RX2 27 "CashAllocator$ReceiptBook" "isBounced" "[Z"] ++ wsX20)
def wsX2_payBackRest : List Cond := .code yX2_payBackRest cX2_payBackRest 3 (some .int) :: ([.fieldLink RX2 21 "CashAllocator$ReceiptBook" "unapplied" "[I", .fieldLink RX2 24 "CashAllocator$ReceiptBook" "paidBack" "[I"] ++ wsX20)
def wsX2_totalOf : List Cond := .code yX2_totalOf cX2_totalOf 4 (some .int) :: ([.fieldLink RX2 37 "CashAllocator$ReceiptBook" "count" "I"] ++ wsX20)
def wsX2_bouncedTotal : List Cond := .code yX2_bouncedTotal cX2_bouncedTotal 3 (some .int) :: ([.fieldLink RX2 37 "CashAllocator$ReceiptBook" "count" "I", .fieldLink RX2 27 "CashAllocator$ReceiptBook" "isBounced" "[Z", .fieldLink RX2 15 "CashAllocator$ReceiptBook" "amount" "[I"] ++ wsX20)
def wsX3_init_r1 : List Cond := [Cond.methodLink RX3 1 objectInit, Cond.instanceMethod objectInit, Cond.code objectInit ⟨#[0xb1]⟩ 1 none, Cond.classLink RX3 7 RX0, Cond.instantiable RX0 12, Cond.initialized RX0, Cond.fieldLink RX3 10 "CashAllocator" "billBook" "LCashAllocator$BillBook;", Cond.classLink RX3 16 RX2, Cond.instantiable RX2 9, Cond.initialized RX2, Cond.fieldLink RX3 19 "CashAllocator" "receiptBook" "LCashAllocator$ReceiptBook;", Cond.classLink RX3 23 RX1, Cond.instantiable RX1 4, Cond.initialized RX1, Cond.fieldLink RX3 26 "CashAllocator" "exactSet" "LCashAllocator$ExactSet;", Cond.fieldLink RX3 30 "CashAllocator" "today" "I", Cond.instanceMethod yX0_init, Cond.code yX0_init cX0_init 1 none, Cond.methodLink RX0 3 objectInit, Cond.arrayClass .int, Cond.fieldLink RX0 9 "CashAllocator$BillBook" "customer" "[I", Cond.fieldLink RX0 15 "CashAllocator$BillBook" "amount" "[I", Cond.fieldLink RX0 18 "CashAllocator$BillBook" "reference" "[I", Cond.fieldLink RX0 21 "CashAllocator$BillBook" "discount" "[I"]
def wsX3_init_r2 : List Cond := [Cond.fieldLink RX0 24 "CashAllocator$BillBook" "lastDiscountDay" "[I", Cond.fieldLink RX0 27 "CashAllocator$BillBook" "paid" "[I", Cond.fieldLink RX0 30 "CashAllocator$BillBook" "taken" "[I", Cond.fieldLink RX0 33 "CashAllocator$BillBook" "takenBy" "[I", Cond.fieldLink RX0 36 "CashAllocator$BillBook" "disputed" "[I", Cond.fieldLink RX0 39 "CashAllocator$BillBook" "disputedBy" "[I", Cond.fieldLink RX0 42 "CashAllocator$BillBook" "writtenOff" "[I", Cond.instanceMethod yX2_init, Cond.code yX2_init cX2_init 1 none, Cond.methodLink RX2 3 objectInit, Cond.fieldLink RX2 9 "CashAllocator$ReceiptBook" "customer" "[I", Cond.fieldLink RX2 15 "CashAllocator$ReceiptBook" "amount" "[I", Cond.fieldLink RX2 18 "CashAllocator$ReceiptBook" "applied" "[I", Cond.fieldLink RX2 21 "CashAllocator$ReceiptBook" "unapplied" "[I", Cond.fieldLink RX2 24 "CashAllocator$ReceiptBook" "paidBack" "[I", Cond.arrayClass .boolean, Cond.fieldLink RX2 27 "CashAllocator$ReceiptBook" "isBounced" "[Z", Cond.fieldLink RX2 31 "CashAllocator$ReceiptBook" "sums" "[I", Cond.fieldLink RX2 34 "CashAllocator$ReceiptBook" "hasSum" "[Z", Cond.instanceMethod yX1_init, Cond.code yX1_init cX1_init 1 none, Cond.methodLink RX1 3 objectInit, Cond.fieldLink RX1 9 "CashAllocator$ExactSet" "offered" "[I", Cond.fieldLink RX1 15 "CashAllocator$ExactSet" "dues" "[I"]
def wsX3_init_r3 : List Cond := [Cond.fieldLink RX1 18 "CashAllocator$ExactSet" "chosen" "[I"]
def wsX3_init : List Cond := .code yX3_init cX3_init 1 none :: ((wsX3_init_r1 ++ (wsX3_init_r2 ++ wsX3_init_r3)) ++ wsX00 ++ wsX30 ++ wsX20 ++ wsX10)
def wsX3_requireCustomer : List Cond := .code yX3_requireCustomer cX3_requireCustomer 1 none :: ([.classLink RX3 145 "java/lang/IndexOutOfBoundsException", .initialized "java/lang/IndexOutOfBoundsException"] ++ (vx_atS RX3 149 "java/lang/IndexOutOfBoundsException" ["java/lang/RuntimeException", "java/lang/Exception"]).filter goodWord)
def wsX3_requireWithin : List Cond := .code yX3_requireWithin cX3_requireWithin 3 none :: ([.classLink RX3 150 "java/lang/IllegalArgumentException", .initialized "java/lang/IllegalArgumentException"] ++ (vx_atS RX3 154 "java/lang/IllegalArgumentException" ["java/lang/RuntimeException", "java/lang/Exception"]).filter goodWord)
def wsX3_discountOf : List Cond := .code yX3_discountOf cX3_discountOf 2 (some .int) :: ([.constantLong RX3 225 (10000)])
def wsX3_bill_r1 : List Cond := [Cond.classLink RX3 46 "java/lang/IllegalStateException", Cond.initialized "java/lang/IllegalStateException", Cond.constant RX3 38 (1000000), Cond.fieldLink RX3 10 "CashAllocator" "billBook" "LCashAllocator$BillBook;", Cond.fieldLink RX3 43 "CashAllocator$BillBook" "count" "I", Cond.fieldLink RX3 30 "CashAllocator" "today" "I", Cond.methodLink RX3 34 yX3_requireCustomer, Cond.static yX3_requireCustomer, Cond.initialized RX3, Cond.code yX3_requireCustomer cX3_requireCustomer 1 none, Cond.classLink RX3 145 "java/lang/IndexOutOfBoundsException", Cond.initialized "java/lang/IndexOutOfBoundsException", Cond.methodLink RX3 39 yX3_requireWithin, Cond.static yX3_requireWithin, Cond.code yX3_requireWithin cX3_requireWithin 3 none, Cond.classLink RX3 150 "java/lang/IllegalArgumentException", Cond.initialized "java/lang/IllegalArgumentException", Cond.methodLink RX3 53 yX3_discountOf, Cond.static yX3_discountOf, Cond.code yX3_discountOf cX3_discountOf 2 (some .int), Cond.constantLong RX3 225 (10000), Cond.methodLink RX3 57 yX0_add, Cond.instanceMethod yX0_add, Cond.selects RX0 yX0_add yX0_add]
def wsX3_bill_r2 : List Cond := [Cond.initialized RX0, Cond.code yX0_add cX0_add 7 (some .int), Cond.fieldLink RX0 45 "CashAllocator$BillBook" "count" "I", Cond.fieldLink RX0 9 "CashAllocator$BillBook" "customer" "[I", Cond.fieldLink RX0 15 "CashAllocator$BillBook" "amount" "[I", Cond.fieldLink RX0 18 "CashAllocator$BillBook" "reference" "[I", Cond.fieldLink RX0 21 "CashAllocator$BillBook" "discount" "[I", Cond.fieldLink RX0 24 "CashAllocator$BillBook" "lastDiscountDay" "[I", Cond.fieldLink RX0 33 "CashAllocator$BillBook" "takenBy" "[I", Cond.fieldLink RX0 39 "CashAllocator$BillBook" "disputedBy" "[I"]
def wsX3_bill : List Cond := .code yX3_bill cX3_bill 6 (some .int) :: ((wsX3_bill_r1 ++ wsX3_bill_r2) ++ wsX30 ++ wsX00 ++ (vx_atS RX3 50 "java/lang/IllegalStateException" ["java/lang/RuntimeException", "java/lang/Exception"]).filter goodWord ++ (vx_atS RX3 149 "java/lang/IndexOutOfBoundsException" ["java/lang/RuntimeException", "java/lang/Exception"]).filter goodWord ++ (vx_atS RX3 154 "java/lang/IllegalArgumentException" ["java/lang/RuntimeException", "java/lang/Exception"]).filter goodWord)
def wsX3_payBill_r1 : List Cond := [Cond.fieldLink RX3 10 "CashAllocator" "billBook" "LCashAllocator$BillBook;", Cond.fieldLink RX3 30 "CashAllocator" "today" "I", Cond.fieldLink RX3 19 "CashAllocator" "receiptBook" "LCashAllocator$ReceiptBook;", Cond.fieldLink RX3 85 "CashAllocator$ReceiptBook" "unapplied" "[I", Cond.fieldLink RX3 135 "CashAllocator$BillBook" "paid" "[I", Cond.methodLink RX3 132 yX0_dueOn, Cond.instanceMethod yX0_dueOn, Cond.selects RX0 yX0_dueOn yX0_dueOn, Cond.initialized RX0, Cond.code yX0_dueOn cX0_dueOn 4 (some .int), Cond.fieldLink RX0 21 "CashAllocator$BillBook" "discount" "[I", Cond.methodLink RX0 49 yX0_openSum, Cond.instanceMethod yX0_openSum, Cond.selects RX0 yX0_openSum yX0_openSum, Cond.code yX0_openSum cX0_openSum 2 (some .int), Cond.fieldLink RX0 15 "CashAllocator$BillBook" "amount" "[I", Cond.fieldLink RX0 27 "CashAllocator$BillBook" "paid" "[I", Cond.fieldLink RX0 30 "CashAllocator$BillBook" "taken" "[I", Cond.fieldLink RX0 36 "CashAllocator$BillBook" "disputed" "[I", Cond.fieldLink RX0 42 "CashAllocator$BillBook" "writtenOff" "[I", Cond.methodLink RX0 53 yX0_allowsDiscount, Cond.instanceMethod yX0_allowsDiscount, Cond.selects RX0 yX0_allowsDiscount yX0_allowsDiscount, Cond.code yX0_allowsDiscount cX0_allowsDiscount 3 (some .boolean)]
def wsX3_payBill_r2 : List Cond := [Cond.fieldLink RX0 24 "CashAllocator$BillBook" "lastDiscountDay" "[I", Cond.methodLink RX3 200 yX0_takeDiscount, Cond.instanceMethod yX0_takeDiscount, Cond.selects RX0 yX0_takeDiscount yX0_takeDiscount, Cond.code yX0_takeDiscount cX0_takeDiscount 4 none, Cond.fieldLink RX0 33 "CashAllocator$BillBook" "takenBy" "[I", Cond.methodLink RX3 203 yX2_addPayment, Cond.instanceMethod yX2_addPayment, Cond.selects RX2 yX2_addPayment yX2_addPayment, Cond.initialized RX2, Cond.code yX2_addPayment cX2_addPayment 4 none, Cond.fieldLink RX2 31 "CashAllocator$ReceiptBook" "sums" "[I", Cond.fieldLink RX2 34 "CashAllocator$ReceiptBook" "hasSum" "[Z", Cond.fieldLink RX2 18 "CashAllocator$ReceiptBook" "applied" "[I", Cond.fieldLink RX2 21 "CashAllocator$ReceiptBook" "unapplied" "[I", Cond.methodLink RX2 41 yX2_cell, Cond.static yX2_cell, Cond.code yX2_cell cX2_cell 2 (some .int)]
def wsX3_payBill : List Cond := .code yX3_payBill cX3_payBill 7 (some .boolean) :: ((wsX3_payBill_r1 ++ wsX3_payBill_r2) ++ wsX30 ++ wsX20 ++ wsX00)
def wsX3_payNamedBills_r1 : List Cond := [Cond.fieldLink RX3 19 "CashAllocator" "receiptBook" "LCashAllocator$ReceiptBook;", Cond.fieldLink RX3 79 "CashAllocator$ReceiptBook" "customer" "[I", Cond.fieldLink RX3 10 "CashAllocator" "billBook" "LCashAllocator$BillBook;", Cond.fieldLink RX3 43 "CashAllocator$BillBook" "count" "I", Cond.fieldLink RX3 85 "CashAllocator$ReceiptBook" "unapplied" "[I", Cond.fieldLink RX3 185 "CashAllocator$BillBook" "reference" "[I", Cond.methodLink RX3 179 yX0_customerNamedBy, Cond.instanceMethod yX0_customerNamedBy, Cond.selects RX0 yX0_customerNamedBy yX0_customerNamedBy, Cond.initialized RX0, Cond.code yX0_customerNamedBy cX0_customerNamedBy 3 (some .int), Cond.fieldLink RX0 45 "CashAllocator$BillBook" "count" "I", Cond.fieldLink RX0 18 "CashAllocator$BillBook" "reference" "[I", Cond.fieldLink RX0 9 "CashAllocator$BillBook" "customer" "[I", Cond.methodLink RX0 49 yX0_openSum, Cond.instanceMethod yX0_openSum, Cond.selects RX0 yX0_openSum yX0_openSum, Cond.code yX0_openSum cX0_openSum 2 (some .int), Cond.fieldLink RX0 15 "CashAllocator$BillBook" "amount" "[I", Cond.fieldLink RX0 27 "CashAllocator$BillBook" "paid" "[I", Cond.fieldLink RX0 30 "CashAllocator$BillBook" "taken" "[I", Cond.fieldLink RX0 36 "CashAllocator$BillBook" "disputed" "[I", Cond.fieldLink RX0 42 "CashAllocator$BillBook" "writtenOff" "[I", Cond.methodLink RX3 182 yX0_isOpenFor]
def wsX3_payNamedBills_r2 : List Cond := [Cond.instanceMethod yX0_isOpenFor, Cond.selects RX0 yX0_isOpenFor yX0_isOpenFor, Cond.code yX0_isOpenFor cX0_isOpenFor 3 (some .boolean), Cond.methodLink RX3 188 yX3_payBill, Cond.instanceMethod yX3_payBill, Cond.selects RX3 yX3_payBill yX3_payBill, Cond.initialized RX3, Cond.code yX3_payBill cX3_payBill 7 (some .boolean), Cond.fieldLink RX3 30 "CashAllocator" "today" "I", Cond.fieldLink RX3 135 "CashAllocator$BillBook" "paid" "[I", Cond.methodLink RX3 132 yX0_dueOn, Cond.instanceMethod yX0_dueOn, Cond.selects RX0 yX0_dueOn yX0_dueOn, Cond.code yX0_dueOn cX0_dueOn 4 (some .int), Cond.fieldLink RX0 21 "CashAllocator$BillBook" "discount" "[I", Cond.methodLink RX0 53 yX0_allowsDiscount, Cond.instanceMethod yX0_allowsDiscount, Cond.selects RX0 yX0_allowsDiscount yX0_allowsDiscount, Cond.code yX0_allowsDiscount cX0_allowsDiscount 3 (some .boolean), Cond.fieldLink RX0 24 "CashAllocator$BillBook" "lastDiscountDay" "[I", Cond.methodLink RX3 200 yX0_takeDiscount, Cond.instanceMethod yX0_takeDiscount, Cond.selects RX0 yX0_takeDiscount yX0_takeDiscount, Cond.code yX0_takeDiscount cX0_takeDiscount 4 none]
def wsX3_payNamedBills_r3 : List Cond := [Cond.fieldLink RX0 33 "CashAllocator$BillBook" "takenBy" "[I", Cond.methodLink RX3 203 yX2_addPayment, Cond.instanceMethod yX2_addPayment, Cond.selects RX2 yX2_addPayment yX2_addPayment, Cond.initialized RX2, Cond.code yX2_addPayment cX2_addPayment 4 none, Cond.fieldLink RX2 31 "CashAllocator$ReceiptBook" "sums" "[I", Cond.fieldLink RX2 34 "CashAllocator$ReceiptBook" "hasSum" "[Z", Cond.fieldLink RX2 18 "CashAllocator$ReceiptBook" "applied" "[I", Cond.fieldLink RX2 21 "CashAllocator$ReceiptBook" "unapplied" "[I", Cond.methodLink RX2 41 yX2_cell, Cond.static yX2_cell, Cond.code yX2_cell cX2_cell 2 (some .int), Cond.methodLink RX3 191 yX0_disputeRest, Cond.instanceMethod yX0_disputeRest, Cond.selects RX0 yX0_disputeRest yX0_disputeRest, Cond.code yX0_disputeRest cX0_disputeRest 3 none, Cond.fieldLink RX0 39 "CashAllocator$BillBook" "disputedBy" "[I"]
def wsX3_payNamedBills : List Cond := .code yX3_payNamedBills cX3_payNamedBills 6 none :: ((wsX3_payNamedBills_r1 ++ (wsX3_payNamedBills_r2 ++ wsX3_payNamedBills_r3)) ++ wsX30 ++ wsX20 ++ wsX00)
def wsX3_chooseExactSet_r1 : List Cond := [Cond.fieldLink RX3 26 "CashAllocator" "exactSet" "LCashAllocator$ExactSet;", Cond.fieldLink RX3 10 "CashAllocator" "billBook" "LCashAllocator$BillBook;", Cond.fieldLink RX3 43 "CashAllocator$BillBook" "count" "I", Cond.fieldLink RX3 30 "CashAllocator" "today" "I", Cond.methodLink RX3 206 yX1_clear, Cond.instanceMethod yX1_clear, Cond.selects RX1 yX1_clear yX1_clear, Cond.initialized RX1, Cond.code yX1_clear cX1_clear 1 none, Cond.fieldLink RX1 21 "CashAllocator$ExactSet" "count" "I", Cond.fieldLink RX1 18 "CashAllocator$ExactSet" "chosen" "[I", Cond.methodLink RX3 182 yX0_isOpenFor, Cond.instanceMethod yX0_isOpenFor, Cond.selects RX0 yX0_isOpenFor yX0_isOpenFor, Cond.initialized RX0, Cond.code yX0_isOpenFor cX0_isOpenFor 3 (some .boolean), Cond.fieldLink RX0 9 "CashAllocator$BillBook" "customer" "[I", Cond.methodLink RX0 49 yX0_openSum, Cond.instanceMethod yX0_openSum, Cond.selects RX0 yX0_openSum yX0_openSum, Cond.code yX0_openSum cX0_openSum 2 (some .int), Cond.fieldLink RX0 15 "CashAllocator$BillBook" "amount" "[I", Cond.fieldLink RX0 27 "CashAllocator$BillBook" "paid" "[I", Cond.fieldLink RX0 30 "CashAllocator$BillBook" "taken" "[I"]
def wsX3_chooseExactSet_r2 : List Cond := [Cond.fieldLink RX0 36 "CashAllocator$BillBook" "disputed" "[I", Cond.fieldLink RX0 42 "CashAllocator$BillBook" "writtenOff" "[I", Cond.methodLink RX3 132 yX0_dueOn, Cond.instanceMethod yX0_dueOn, Cond.selects RX0 yX0_dueOn yX0_dueOn, Cond.code yX0_dueOn cX0_dueOn 4 (some .int), Cond.fieldLink RX0 21 "CashAllocator$BillBook" "discount" "[I", Cond.methodLink RX0 53 yX0_allowsDiscount, Cond.instanceMethod yX0_allowsDiscount, Cond.selects RX0 yX0_allowsDiscount yX0_allowsDiscount, Cond.code yX0_allowsDiscount cX0_allowsDiscount 3 (some .boolean), Cond.fieldLink RX0 24 "CashAllocator$BillBook" "lastDiscountDay" "[I", Cond.methodLink RX3 209 yX1_offer, Cond.instanceMethod yX1_offer, Cond.selects RX1 yX1_offer yX1_offer, Cond.code yX1_offer cX1_offer 3 none, Cond.fieldLink RX1 9 "CashAllocator$ExactSet" "offered" "[I", Cond.fieldLink RX1 15 "CashAllocator$ExactSet" "dues" "[I", Cond.methodLink RX3 212 yX1_choose, Cond.instanceMethod yX1_choose, Cond.selects RX1 yX1_choose yX1_choose, Cond.code yX1_choose cX1_choose 2 none, Cond.methodLink RX1 25 yX1_chooseOne, Cond.instanceMethod yX1_chooseOne]
def wsX3_chooseExactSet_r3 : List Cond := [Cond.selects RX1 yX1_chooseOne yX1_chooseOne, Cond.code yX1_chooseOne cX1_chooseOne 3 (some .boolean), Cond.methodLink RX1 36 yX1_find, Cond.instanceMethod yX1_find, Cond.selects RX1 yX1_find yX1_find, Cond.code yX1_find cX1_find 4 (some .int), Cond.methodLink RX1 29 yX1_chooseTwo, Cond.instanceMethod yX1_chooseTwo, Cond.selects RX1 yX1_chooseTwo yX1_chooseTwo, Cond.code yX1_chooseTwo cX1_chooseTwo 4 (some .boolean), Cond.methodLink RX1 32 yX1_chooseThree, Cond.instanceMethod yX1_chooseThree, Cond.selects RX1 yX1_chooseThree yX1_chooseThree, Cond.code yX1_chooseThree cX1_chooseThree 5 none]
def wsX3_chooseExactSet : List Cond := .code yX3_chooseExactSet cX3_chooseExactSet 4 none :: ((wsX3_chooseExactSet_r1 ++ (wsX3_chooseExactSet_r2 ++ wsX3_chooseExactSet_r3)) ++ wsX30 ++ wsX00 ++ wsX10)
def wsX3_payExactSet_r1 : List Cond := [Cond.fieldLink RX3 19 "CashAllocator" "receiptBook" "LCashAllocator$ReceiptBook;", Cond.fieldLink RX3 79 "CashAllocator$ReceiptBook" "customer" "[I", Cond.fieldLink RX3 85 "CashAllocator$ReceiptBook" "unapplied" "[I", Cond.fieldLink RX3 26 "CashAllocator" "exactSet" "LCashAllocator$ExactSet;", Cond.fieldLink RX3 158 "CashAllocator$ExactSet" "chosen" "[I", Cond.fieldLink RX3 10 "CashAllocator" "billBook" "LCashAllocator$BillBook;", Cond.fieldLink RX3 43 "CashAllocator$BillBook" "count" "I", Cond.methodLink RX3 155 yX3_chooseExactSet, Cond.instanceMethod yX3_chooseExactSet, Cond.selects RX3 yX3_chooseExactSet yX3_chooseExactSet, Cond.initialized RX3, Cond.code yX3_chooseExactSet cX3_chooseExactSet 4 none, Cond.fieldLink RX3 30 "CashAllocator" "today" "I", Cond.methodLink RX3 206 yX1_clear, Cond.instanceMethod yX1_clear, Cond.selects RX1 yX1_clear yX1_clear, Cond.initialized RX1, Cond.code yX1_clear cX1_clear 1 none, Cond.fieldLink RX1 21 "CashAllocator$ExactSet" "count" "I", Cond.fieldLink RX1 18 "CashAllocator$ExactSet" "chosen" "[I", Cond.methodLink RX3 182 yX0_isOpenFor, Cond.instanceMethod yX0_isOpenFor, Cond.selects RX0 yX0_isOpenFor yX0_isOpenFor, Cond.initialized RX0]
def wsX3_payExactSet_r2 : List Cond := [Cond.code yX0_isOpenFor cX0_isOpenFor 3 (some .boolean), Cond.fieldLink RX0 9 "CashAllocator$BillBook" "customer" "[I", Cond.methodLink RX0 49 yX0_openSum, Cond.instanceMethod yX0_openSum, Cond.selects RX0 yX0_openSum yX0_openSum, Cond.code yX0_openSum cX0_openSum 2 (some .int), Cond.fieldLink RX0 15 "CashAllocator$BillBook" "amount" "[I", Cond.fieldLink RX0 27 "CashAllocator$BillBook" "paid" "[I", Cond.fieldLink RX0 30 "CashAllocator$BillBook" "taken" "[I", Cond.fieldLink RX0 36 "CashAllocator$BillBook" "disputed" "[I", Cond.fieldLink RX0 42 "CashAllocator$BillBook" "writtenOff" "[I", Cond.methodLink RX3 132 yX0_dueOn, Cond.instanceMethod yX0_dueOn, Cond.selects RX0 yX0_dueOn yX0_dueOn, Cond.code yX0_dueOn cX0_dueOn 4 (some .int), Cond.fieldLink RX0 21 "CashAllocator$BillBook" "discount" "[I", Cond.methodLink RX0 53 yX0_allowsDiscount, Cond.instanceMethod yX0_allowsDiscount, Cond.selects RX0 yX0_allowsDiscount yX0_allowsDiscount, Cond.code yX0_allowsDiscount cX0_allowsDiscount 3 (some .boolean), Cond.fieldLink RX0 24 "CashAllocator$BillBook" "lastDiscountDay" "[I", Cond.methodLink RX3 209 yX1_offer, Cond.instanceMethod yX1_offer, Cond.selects RX1 yX1_offer yX1_offer]
def wsX3_payExactSet_r3 : List Cond := [Cond.code yX1_offer cX1_offer 3 none, Cond.fieldLink RX1 9 "CashAllocator$ExactSet" "offered" "[I", Cond.fieldLink RX1 15 "CashAllocator$ExactSet" "dues" "[I", Cond.methodLink RX3 212 yX1_choose, Cond.instanceMethod yX1_choose, Cond.selects RX1 yX1_choose yX1_choose, Cond.code yX1_choose cX1_choose 2 none, Cond.methodLink RX1 25 yX1_chooseOne, Cond.instanceMethod yX1_chooseOne, Cond.selects RX1 yX1_chooseOne yX1_chooseOne, Cond.code yX1_chooseOne cX1_chooseOne 3 (some .boolean), Cond.methodLink RX1 36 yX1_find, Cond.instanceMethod yX1_find, Cond.selects RX1 yX1_find yX1_find, Cond.code yX1_find cX1_find 4 (some .int), Cond.methodLink RX1 29 yX1_chooseTwo, Cond.instanceMethod yX1_chooseTwo, Cond.selects RX1 yX1_chooseTwo yX1_chooseTwo, Cond.code yX1_chooseTwo cX1_chooseTwo 4 (some .boolean), Cond.methodLink RX1 32 yX1_chooseThree, Cond.instanceMethod yX1_chooseThree, Cond.selects RX1 yX1_chooseThree yX1_chooseThree, Cond.code yX1_chooseThree cX1_chooseThree 5 none, Cond.methodLink RX3 188 yX3_payBill]
def wsX3_payExactSet_r4 : List Cond := [Cond.instanceMethod yX3_payBill, Cond.selects RX3 yX3_payBill yX3_payBill, Cond.code yX3_payBill cX3_payBill 7 (some .boolean), Cond.fieldLink RX3 135 "CashAllocator$BillBook" "paid" "[I", Cond.methodLink RX3 200 yX0_takeDiscount, Cond.instanceMethod yX0_takeDiscount, Cond.selects RX0 yX0_takeDiscount yX0_takeDiscount, Cond.code yX0_takeDiscount cX0_takeDiscount 4 none, Cond.fieldLink RX0 33 "CashAllocator$BillBook" "takenBy" "[I", Cond.methodLink RX3 203 yX2_addPayment, Cond.instanceMethod yX2_addPayment, Cond.selects RX2 yX2_addPayment yX2_addPayment, Cond.initialized RX2, Cond.code yX2_addPayment cX2_addPayment 4 none, Cond.fieldLink RX2 31 "CashAllocator$ReceiptBook" "sums" "[I", Cond.fieldLink RX2 34 "CashAllocator$ReceiptBook" "hasSum" "[Z", Cond.fieldLink RX2 18 "CashAllocator$ReceiptBook" "applied" "[I", Cond.fieldLink RX2 21 "CashAllocator$ReceiptBook" "unapplied" "[I", Cond.methodLink RX2 41 yX2_cell, Cond.static yX2_cell, Cond.code yX2_cell cX2_cell 2 (some .int)]
def wsX3_payExactSet : List Cond := .code yX3_payExactSet cX3_payExactSet 4 none :: ((wsX3_payExactSet_r1 ++ (wsX3_payExactSet_r2 ++ (wsX3_payExactSet_r3 ++ wsX3_payExactSet_r4))) ++ wsX30 ++ wsX20 ++ wsX10 ++ wsX00)
def wsX3_payOldestBills_r1 : List Cond := [Cond.fieldLink RX3 19 "CashAllocator" "receiptBook" "LCashAllocator$ReceiptBook;", Cond.fieldLink RX3 79 "CashAllocator$ReceiptBook" "customer" "[I", Cond.fieldLink RX3 10 "CashAllocator" "billBook" "LCashAllocator$BillBook;", Cond.fieldLink RX3 43 "CashAllocator$BillBook" "count" "I", Cond.fieldLink RX3 85 "CashAllocator$ReceiptBook" "unapplied" "[I", Cond.methodLink RX3 182 yX0_isOpenFor, Cond.instanceMethod yX0_isOpenFor, Cond.selects RX0 yX0_isOpenFor yX0_isOpenFor, Cond.initialized RX0, Cond.code yX0_isOpenFor cX0_isOpenFor 3 (some .boolean), Cond.fieldLink RX0 9 "CashAllocator$BillBook" "customer" "[I", Cond.methodLink RX0 49 yX0_openSum, Cond.instanceMethod yX0_openSum, Cond.selects RX0 yX0_openSum yX0_openSum, Cond.code yX0_openSum cX0_openSum 2 (some .int), Cond.fieldLink RX0 15 "CashAllocator$BillBook" "amount" "[I", Cond.fieldLink RX0 27 "CashAllocator$BillBook" "paid" "[I", Cond.fieldLink RX0 30 "CashAllocator$BillBook" "taken" "[I", Cond.fieldLink RX0 36 "CashAllocator$BillBook" "disputed" "[I", Cond.fieldLink RX0 42 "CashAllocator$BillBook" "writtenOff" "[I", Cond.methodLink RX3 188 yX3_payBill, Cond.instanceMethod yX3_payBill, Cond.selects RX3 yX3_payBill yX3_payBill, Cond.initialized RX3]
def wsX3_payOldestBills_r2 : List Cond := [Cond.code yX3_payBill cX3_payBill 7 (some .boolean), Cond.fieldLink RX3 30 "CashAllocator" "today" "I", Cond.fieldLink RX3 135 "CashAllocator$BillBook" "paid" "[I", Cond.methodLink RX3 132 yX0_dueOn, Cond.instanceMethod yX0_dueOn, Cond.selects RX0 yX0_dueOn yX0_dueOn, Cond.code yX0_dueOn cX0_dueOn 4 (some .int), Cond.fieldLink RX0 21 "CashAllocator$BillBook" "discount" "[I", Cond.methodLink RX0 53 yX0_allowsDiscount, Cond.instanceMethod yX0_allowsDiscount, Cond.selects RX0 yX0_allowsDiscount yX0_allowsDiscount, Cond.code yX0_allowsDiscount cX0_allowsDiscount 3 (some .boolean), Cond.fieldLink RX0 24 "CashAllocator$BillBook" "lastDiscountDay" "[I", Cond.methodLink RX3 200 yX0_takeDiscount, Cond.instanceMethod yX0_takeDiscount, Cond.selects RX0 yX0_takeDiscount yX0_takeDiscount, Cond.code yX0_takeDiscount cX0_takeDiscount 4 none, Cond.fieldLink RX0 33 "CashAllocator$BillBook" "takenBy" "[I", Cond.methodLink RX3 203 yX2_addPayment, Cond.instanceMethod yX2_addPayment, Cond.selects RX2 yX2_addPayment yX2_addPayment, Cond.initialized RX2, Cond.code yX2_addPayment cX2_addPayment 4 none, Cond.fieldLink RX2 31 "CashAllocator$ReceiptBook" "sums" "[I"]
def wsX3_payOldestBills_r3 : List Cond := [Cond.fieldLink RX2 34 "CashAllocator$ReceiptBook" "hasSum" "[Z", Cond.fieldLink RX2 18 "CashAllocator$ReceiptBook" "applied" "[I", Cond.fieldLink RX2 21 "CashAllocator$ReceiptBook" "unapplied" "[I", Cond.methodLink RX2 41 yX2_cell, Cond.static yX2_cell, Cond.code yX2_cell cX2_cell 2 (some .int)]
def wsX3_payOldestBills : List Cond := .code yX3_payOldestBills cX3_payOldestBills 4 none :: ((wsX3_payOldestBills_r1 ++ (wsX3_payOldestBills_r2 ++ wsX3_payOldestBills_r3)) ++ wsX30 ++ wsX20 ++ wsX00)
def wsX3_payOtherBills_r1 : List Cond := [Cond.fieldLink RX3 19 "CashAllocator" "receiptBook" "LCashAllocator$ReceiptBook;", Cond.fieldLink RX3 79 "CashAllocator$ReceiptBook" "customer" "[I", Cond.fieldLink RX3 85 "CashAllocator$ReceiptBook" "unapplied" "[I", Cond.methodLink RX3 194 yX3_payExactSet, Cond.instanceMethod yX3_payExactSet, Cond.selects RX3 yX3_payExactSet yX3_payExactSet, Cond.initialized RX3, Cond.code yX3_payExactSet cX3_payExactSet 4 none, Cond.fieldLink RX3 26 "CashAllocator" "exactSet" "LCashAllocator$ExactSet;", Cond.fieldLink RX3 158 "CashAllocator$ExactSet" "chosen" "[I", Cond.fieldLink RX3 10 "CashAllocator" "billBook" "LCashAllocator$BillBook;", Cond.fieldLink RX3 43 "CashAllocator$BillBook" "count" "I", Cond.methodLink RX3 155 yX3_chooseExactSet, Cond.instanceMethod yX3_chooseExactSet, Cond.selects RX3 yX3_chooseExactSet yX3_chooseExactSet, Cond.code yX3_chooseExactSet cX3_chooseExactSet 4 none, Cond.fieldLink RX3 30 "CashAllocator" "today" "I", Cond.methodLink RX3 206 yX1_clear, Cond.instanceMethod yX1_clear, Cond.selects RX1 yX1_clear yX1_clear, Cond.initialized RX1, Cond.code yX1_clear cX1_clear 1 none, Cond.fieldLink RX1 21 "CashAllocator$ExactSet" "count" "I", Cond.fieldLink RX1 18 "CashAllocator$ExactSet" "chosen" "[I"]
def wsX3_payOtherBills_r2 : List Cond := [Cond.methodLink RX3 182 yX0_isOpenFor, Cond.instanceMethod yX0_isOpenFor, Cond.selects RX0 yX0_isOpenFor yX0_isOpenFor, Cond.initialized RX0, Cond.code yX0_isOpenFor cX0_isOpenFor 3 (some .boolean), Cond.fieldLink RX0 9 "CashAllocator$BillBook" "customer" "[I", Cond.methodLink RX0 49 yX0_openSum, Cond.instanceMethod yX0_openSum, Cond.selects RX0 yX0_openSum yX0_openSum, Cond.code yX0_openSum cX0_openSum 2 (some .int), Cond.fieldLink RX0 15 "CashAllocator$BillBook" "amount" "[I", Cond.fieldLink RX0 27 "CashAllocator$BillBook" "paid" "[I", Cond.fieldLink RX0 30 "CashAllocator$BillBook" "taken" "[I", Cond.fieldLink RX0 36 "CashAllocator$BillBook" "disputed" "[I", Cond.fieldLink RX0 42 "CashAllocator$BillBook" "writtenOff" "[I", Cond.methodLink RX3 132 yX0_dueOn, Cond.instanceMethod yX0_dueOn, Cond.selects RX0 yX0_dueOn yX0_dueOn, Cond.code yX0_dueOn cX0_dueOn 4 (some .int), Cond.fieldLink RX0 21 "CashAllocator$BillBook" "discount" "[I", Cond.methodLink RX0 53 yX0_allowsDiscount, Cond.instanceMethod yX0_allowsDiscount, Cond.selects RX0 yX0_allowsDiscount yX0_allowsDiscount, Cond.code yX0_allowsDiscount cX0_allowsDiscount 3 (some .boolean)]
def wsX3_payOtherBills_r3 : List Cond := [Cond.fieldLink RX0 24 "CashAllocator$BillBook" "lastDiscountDay" "[I", Cond.methodLink RX3 209 yX1_offer, Cond.instanceMethod yX1_offer, Cond.selects RX1 yX1_offer yX1_offer, Cond.code yX1_offer cX1_offer 3 none, Cond.fieldLink RX1 9 "CashAllocator$ExactSet" "offered" "[I", Cond.fieldLink RX1 15 "CashAllocator$ExactSet" "dues" "[I", Cond.methodLink RX3 212 yX1_choose, Cond.instanceMethod yX1_choose, Cond.selects RX1 yX1_choose yX1_choose, Cond.code yX1_choose cX1_choose 2 none, Cond.methodLink RX1 25 yX1_chooseOne, Cond.instanceMethod yX1_chooseOne, Cond.selects RX1 yX1_chooseOne yX1_chooseOne, Cond.code yX1_chooseOne cX1_chooseOne 3 (some .boolean), Cond.methodLink RX1 36 yX1_find, Cond.instanceMethod yX1_find, Cond.selects RX1 yX1_find yX1_find, Cond.code yX1_find cX1_find 4 (some .int), Cond.methodLink RX1 29 yX1_chooseTwo, Cond.instanceMethod yX1_chooseTwo, Cond.selects RX1 yX1_chooseTwo yX1_chooseTwo, Cond.code yX1_chooseTwo cX1_chooseTwo 4 (some .boolean), Cond.methodLink RX1 32 yX1_chooseThree]
def wsX3_payOtherBills_r4 : List Cond := [Cond.instanceMethod yX1_chooseThree, Cond.selects RX1 yX1_chooseThree yX1_chooseThree, Cond.code yX1_chooseThree cX1_chooseThree 5 none, Cond.methodLink RX3 188 yX3_payBill, Cond.instanceMethod yX3_payBill, Cond.selects RX3 yX3_payBill yX3_payBill, Cond.code yX3_payBill cX3_payBill 7 (some .boolean), Cond.fieldLink RX3 135 "CashAllocator$BillBook" "paid" "[I", Cond.methodLink RX3 200 yX0_takeDiscount, Cond.instanceMethod yX0_takeDiscount, Cond.selects RX0 yX0_takeDiscount yX0_takeDiscount, Cond.code yX0_takeDiscount cX0_takeDiscount 4 none, Cond.fieldLink RX0 33 "CashAllocator$BillBook" "takenBy" "[I", Cond.methodLink RX3 203 yX2_addPayment, Cond.instanceMethod yX2_addPayment, Cond.selects RX2 yX2_addPayment yX2_addPayment, Cond.initialized RX2, Cond.code yX2_addPayment cX2_addPayment 4 none, Cond.fieldLink RX2 31 "CashAllocator$ReceiptBook" "sums" "[I", Cond.fieldLink RX2 34 "CashAllocator$ReceiptBook" "hasSum" "[Z", Cond.fieldLink RX2 18 "CashAllocator$ReceiptBook" "applied" "[I", Cond.fieldLink RX2 21 "CashAllocator$ReceiptBook" "unapplied" "[I", Cond.methodLink RX2 41 yX2_cell, Cond.static yX2_cell]
def wsX3_payOtherBills_r5 : List Cond := [Cond.code yX2_cell cX2_cell 2 (some .int), Cond.methodLink RX3 197 yX3_payOldestBills, Cond.instanceMethod yX3_payOldestBills, Cond.selects RX3 yX3_payOldestBills yX3_payOldestBills, Cond.code yX3_payOldestBills cX3_payOldestBills 4 none]
def wsX3_payOtherBills : List Cond := .code yX3_payOtherBills cX3_payOtherBills 2 none :: ((wsX3_payOtherBills_r1 ++ (wsX3_payOtherBills_r2 ++ (wsX3_payOtherBills_r3 ++ (wsX3_payOtherBills_r4 ++ wsX3_payOtherBills_r5)))) ++ wsX30 ++ wsX20 ++ wsX10 ++ wsX00)
def wsX3_receive_r1 : List Cond := [Cond.classLink RX3 46 "java/lang/IllegalStateException", Cond.initialized "java/lang/IllegalStateException", Cond.constant RX3 38 (1000000), Cond.fieldLink RX3 19 "CashAllocator" "receiptBook" "LCashAllocator$ReceiptBook;", Cond.fieldLink RX3 61 "CashAllocator$ReceiptBook" "count" "I", Cond.methodLink RX3 34 yX3_requireCustomer, Cond.static yX3_requireCustomer, Cond.initialized RX3, Cond.code yX3_requireCustomer cX3_requireCustomer 1 none, Cond.classLink RX3 145 "java/lang/IndexOutOfBoundsException", Cond.initialized "java/lang/IndexOutOfBoundsException", Cond.methodLink RX3 39 yX3_requireWithin, Cond.static yX3_requireWithin, Cond.code yX3_requireWithin cX3_requireWithin 3 none, Cond.classLink RX3 150 "java/lang/IllegalArgumentException", Cond.initialized "java/lang/IllegalArgumentException", Cond.methodLink RX3 64 yX2_add, Cond.instanceMethod yX2_add, Cond.selects RX2 yX2_add yX2_add, Cond.initialized RX2, Cond.code yX2_add cX2_add 4 (some .int), Cond.fieldLink RX2 37 "CashAllocator$ReceiptBook" "count" "I", Cond.fieldLink RX2 9 "CashAllocator$ReceiptBook" "customer" "[I", Cond.fieldLink RX2 15 "CashAllocator$ReceiptBook" "amount" "[I"]
def wsX3_receive_r2 : List Cond := [Cond.fieldLink RX2 21 "CashAllocator$ReceiptBook" "unapplied" "[I", Cond.methodLink RX3 66 yX3_payNamedBills, Cond.instanceMethod yX3_payNamedBills, Cond.selects RX3 yX3_payNamedBills yX3_payNamedBills, Cond.code yX3_payNamedBills cX3_payNamedBills 6 none, Cond.fieldLink RX3 79 "CashAllocator$ReceiptBook" "customer" "[I", Cond.fieldLink RX3 10 "CashAllocator" "billBook" "LCashAllocator$BillBook;", Cond.fieldLink RX3 43 "CashAllocator$BillBook" "count" "I", Cond.fieldLink RX3 85 "CashAllocator$ReceiptBook" "unapplied" "[I", Cond.fieldLink RX3 185 "CashAllocator$BillBook" "reference" "[I", Cond.methodLink RX3 179 yX0_customerNamedBy, Cond.instanceMethod yX0_customerNamedBy, Cond.selects RX0 yX0_customerNamedBy yX0_customerNamedBy, Cond.initialized RX0, Cond.code yX0_customerNamedBy cX0_customerNamedBy 3 (some .int), Cond.fieldLink RX0 45 "CashAllocator$BillBook" "count" "I", Cond.fieldLink RX0 18 "CashAllocator$BillBook" "reference" "[I", Cond.fieldLink RX0 9 "CashAllocator$BillBook" "customer" "[I", Cond.methodLink RX0 49 yX0_openSum, Cond.instanceMethod yX0_openSum, Cond.selects RX0 yX0_openSum yX0_openSum, Cond.code yX0_openSum cX0_openSum 2 (some .int), Cond.fieldLink RX0 15 "CashAllocator$BillBook" "amount" "[I", Cond.fieldLink RX0 27 "CashAllocator$BillBook" "paid" "[I"]
def wsX3_receive_r3 : List Cond := [Cond.fieldLink RX0 30 "CashAllocator$BillBook" "taken" "[I", Cond.fieldLink RX0 36 "CashAllocator$BillBook" "disputed" "[I", Cond.fieldLink RX0 42 "CashAllocator$BillBook" "writtenOff" "[I", Cond.methodLink RX3 182 yX0_isOpenFor, Cond.instanceMethod yX0_isOpenFor, Cond.selects RX0 yX0_isOpenFor yX0_isOpenFor, Cond.code yX0_isOpenFor cX0_isOpenFor 3 (some .boolean), Cond.methodLink RX3 188 yX3_payBill, Cond.instanceMethod yX3_payBill, Cond.selects RX3 yX3_payBill yX3_payBill, Cond.code yX3_payBill cX3_payBill 7 (some .boolean), Cond.fieldLink RX3 30 "CashAllocator" "today" "I", Cond.fieldLink RX3 135 "CashAllocator$BillBook" "paid" "[I", Cond.methodLink RX3 132 yX0_dueOn, Cond.instanceMethod yX0_dueOn, Cond.selects RX0 yX0_dueOn yX0_dueOn, Cond.code yX0_dueOn cX0_dueOn 4 (some .int), Cond.fieldLink RX0 21 "CashAllocator$BillBook" "discount" "[I", Cond.methodLink RX0 53 yX0_allowsDiscount, Cond.instanceMethod yX0_allowsDiscount, Cond.selects RX0 yX0_allowsDiscount yX0_allowsDiscount, Cond.code yX0_allowsDiscount cX0_allowsDiscount 3 (some .boolean), Cond.fieldLink RX0 24 "CashAllocator$BillBook" "lastDiscountDay" "[I", Cond.methodLink RX3 200 yX0_takeDiscount]
def wsX3_receive_r4 : List Cond := [Cond.instanceMethod yX0_takeDiscount, Cond.selects RX0 yX0_takeDiscount yX0_takeDiscount, Cond.code yX0_takeDiscount cX0_takeDiscount 4 none, Cond.fieldLink RX0 33 "CashAllocator$BillBook" "takenBy" "[I", Cond.methodLink RX3 203 yX2_addPayment, Cond.instanceMethod yX2_addPayment, Cond.selects RX2 yX2_addPayment yX2_addPayment, Cond.code yX2_addPayment cX2_addPayment 4 none, Cond.fieldLink RX2 31 "CashAllocator$ReceiptBook" "sums" "[I", Cond.fieldLink RX2 34 "CashAllocator$ReceiptBook" "hasSum" "[Z", Cond.fieldLink RX2 18 "CashAllocator$ReceiptBook" "applied" "[I", Cond.methodLink RX2 41 yX2_cell, Cond.static yX2_cell, Cond.code yX2_cell cX2_cell 2 (some .int), Cond.methodLink RX3 191 yX0_disputeRest, Cond.instanceMethod yX0_disputeRest, Cond.selects RX0 yX0_disputeRest yX0_disputeRest, Cond.code yX0_disputeRest cX0_disputeRest 3 none, Cond.fieldLink RX0 39 "CashAllocator$BillBook" "disputedBy" "[I", Cond.methodLink RX3 70 yX3_payOtherBills, Cond.instanceMethod yX3_payOtherBills, Cond.selects RX3 yX3_payOtherBills yX3_payOtherBills, Cond.code yX3_payOtherBills cX3_payOtherBills 2 none, Cond.methodLink RX3 194 yX3_payExactSet]
def wsX3_receive_r5 : List Cond := [Cond.instanceMethod yX3_payExactSet, Cond.selects RX3 yX3_payExactSet yX3_payExactSet, Cond.code yX3_payExactSet cX3_payExactSet 4 none, Cond.fieldLink RX3 26 "CashAllocator" "exactSet" "LCashAllocator$ExactSet;", Cond.fieldLink RX3 158 "CashAllocator$ExactSet" "chosen" "[I", Cond.methodLink RX3 155 yX3_chooseExactSet, Cond.instanceMethod yX3_chooseExactSet, Cond.selects RX3 yX3_chooseExactSet yX3_chooseExactSet, Cond.code yX3_chooseExactSet cX3_chooseExactSet 4 none, Cond.methodLink RX3 206 yX1_clear, Cond.instanceMethod yX1_clear, Cond.selects RX1 yX1_clear yX1_clear, Cond.initialized RX1, Cond.code yX1_clear cX1_clear 1 none, Cond.fieldLink RX1 21 "CashAllocator$ExactSet" "count" "I", Cond.fieldLink RX1 18 "CashAllocator$ExactSet" "chosen" "[I", Cond.methodLink RX3 209 yX1_offer, Cond.instanceMethod yX1_offer, Cond.selects RX1 yX1_offer yX1_offer, Cond.code yX1_offer cX1_offer 3 none, Cond.fieldLink RX1 9 "CashAllocator$ExactSet" "offered" "[I", Cond.fieldLink RX1 15 "CashAllocator$ExactSet" "dues" "[I", Cond.methodLink RX3 212 yX1_choose, Cond.instanceMethod yX1_choose]
def wsX3_receive_r6 : List Cond := [Cond.selects RX1 yX1_choose yX1_choose, Cond.code yX1_choose cX1_choose 2 none, Cond.methodLink RX1 25 yX1_chooseOne, Cond.instanceMethod yX1_chooseOne, Cond.selects RX1 yX1_chooseOne yX1_chooseOne, Cond.code yX1_chooseOne cX1_chooseOne 3 (some .boolean), Cond.methodLink RX1 36 yX1_find, Cond.instanceMethod yX1_find, Cond.selects RX1 yX1_find yX1_find, Cond.code yX1_find cX1_find 4 (some .int), Cond.methodLink RX1 29 yX1_chooseTwo, Cond.instanceMethod yX1_chooseTwo, Cond.selects RX1 yX1_chooseTwo yX1_chooseTwo, Cond.code yX1_chooseTwo cX1_chooseTwo 4 (some .boolean), Cond.methodLink RX1 32 yX1_chooseThree, Cond.instanceMethod yX1_chooseThree, Cond.selects RX1 yX1_chooseThree yX1_chooseThree, Cond.code yX1_chooseThree cX1_chooseThree 5 none, Cond.methodLink RX3 197 yX3_payOldestBills, Cond.instanceMethod yX3_payOldestBills, Cond.selects RX3 yX3_payOldestBills yX3_payOldestBills, Cond.code yX3_payOldestBills cX3_payOldestBills 4 none]
def wsX3_receive : List Cond := .code yX3_receive cX3_receive 5 (some .int) :: ((wsX3_receive_r1 ++ (wsX3_receive_r2 ++ (wsX3_receive_r3 ++ (wsX3_receive_r4 ++ (wsX3_receive_r5 ++ wsX3_receive_r6))))) ++ wsX30 ++ wsX20 ++ wsX00 ++ wsX10 ++ (vx_atS RX3 50 "java/lang/IllegalStateException" ["java/lang/RuntimeException", "java/lang/Exception"]).filter goodWord ++ (vx_atS RX3 149 "java/lang/IndexOutOfBoundsException" ["java/lang/RuntimeException", "java/lang/Exception"]).filter goodWord ++ (vx_atS RX3 154 "java/lang/IllegalArgumentException" ["java/lang/RuntimeException", "java/lang/Exception"]).filter goodWord)
def wsX3_requireReceipt : List Cond := .code yX3_requireReceipt cX3_requireReceipt 2 none :: ([.classLink RX3 145 "java/lang/IndexOutOfBoundsException", .initialized "java/lang/IndexOutOfBoundsException", .fieldLink RX3 19 "CashAllocator" "receiptBook" "LCashAllocator$ReceiptBook;", .fieldLink RX3 61 "CashAllocator$ReceiptBook" "count" "I"] ++ wsX30 ++ wsX20 ++ (vx_atS RX3 149 "java/lang/IndexOutOfBoundsException" ["java/lang/RuntimeException", "java/lang/Exception"]).filter goodWord)
def wsX3_requireNotBounced : List Cond := .code yX3_requireNotBounced cX3_requireNotBounced 2 none :: ([.classLink RX3 46 "java/lang/IllegalStateException", .initialized "java/lang/IllegalStateException", .fieldLink RX3 19 "CashAllocator" "receiptBook" "LCashAllocator$ReceiptBook;", .fieldLink RX3 161 "CashAllocator$ReceiptBook" "isBounced" "[Z"] ++ wsX30 ++ wsX20 ++ (vx_atS RX3 50 "java/lang/IllegalStateException" ["java/lang/RuntimeException", "java/lang/Exception"]).filter goodWord)
def wsX3_assign_r1 : List Cond := [Cond.classLink RX3 46 "java/lang/IllegalStateException", Cond.initialized "java/lang/IllegalStateException", Cond.fieldLink RX3 19 "CashAllocator" "receiptBook" "LCashAllocator$ReceiptBook;", Cond.fieldLink RX3 79 "CashAllocator$ReceiptBook" "customer" "[I", Cond.fieldLink RX3 85 "CashAllocator$ReceiptBook" "unapplied" "[I", Cond.methodLink RX3 73 yX3_requireReceipt, Cond.instanceMethod yX3_requireReceipt, Cond.selects RX3 yX3_requireReceipt yX3_requireReceipt, Cond.initialized RX3, Cond.code yX3_requireReceipt cX3_requireReceipt 2 none, Cond.classLink RX3 145 "java/lang/IndexOutOfBoundsException", Cond.initialized "java/lang/IndexOutOfBoundsException", Cond.fieldLink RX3 61 "CashAllocator$ReceiptBook" "count" "I", Cond.methodLink RX3 34 yX3_requireCustomer, Cond.static yX3_requireCustomer, Cond.code yX3_requireCustomer cX3_requireCustomer 1 none, Cond.methodLink RX3 76 yX3_requireNotBounced, Cond.instanceMethod yX3_requireNotBounced, Cond.selects RX3 yX3_requireNotBounced yX3_requireNotBounced, Cond.code yX3_requireNotBounced cX3_requireNotBounced 2 none, Cond.fieldLink RX3 161 "CashAllocator$ReceiptBook" "isBounced" "[Z", Cond.methodLink RX3 70 yX3_payOtherBills, Cond.instanceMethod yX3_payOtherBills, Cond.selects RX3 yX3_payOtherBills yX3_payOtherBills]
def wsX3_assign_r2 : List Cond := [Cond.code yX3_payOtherBills cX3_payOtherBills 2 none, Cond.methodLink RX3 194 yX3_payExactSet, Cond.instanceMethod yX3_payExactSet, Cond.selects RX3 yX3_payExactSet yX3_payExactSet, Cond.code yX3_payExactSet cX3_payExactSet 4 none, Cond.fieldLink RX3 26 "CashAllocator" "exactSet" "LCashAllocator$ExactSet;", Cond.fieldLink RX3 158 "CashAllocator$ExactSet" "chosen" "[I", Cond.fieldLink RX3 10 "CashAllocator" "billBook" "LCashAllocator$BillBook;", Cond.fieldLink RX3 43 "CashAllocator$BillBook" "count" "I", Cond.methodLink RX3 155 yX3_chooseExactSet, Cond.instanceMethod yX3_chooseExactSet, Cond.selects RX3 yX3_chooseExactSet yX3_chooseExactSet, Cond.code yX3_chooseExactSet cX3_chooseExactSet 4 none, Cond.fieldLink RX3 30 "CashAllocator" "today" "I", Cond.methodLink RX3 206 yX1_clear, Cond.instanceMethod yX1_clear, Cond.selects RX1 yX1_clear yX1_clear, Cond.initialized RX1, Cond.code yX1_clear cX1_clear 1 none, Cond.fieldLink RX1 21 "CashAllocator$ExactSet" "count" "I", Cond.fieldLink RX1 18 "CashAllocator$ExactSet" "chosen" "[I", Cond.methodLink RX3 182 yX0_isOpenFor, Cond.instanceMethod yX0_isOpenFor, Cond.selects RX0 yX0_isOpenFor yX0_isOpenFor]
def wsX3_assign_r3 : List Cond := [Cond.initialized RX0, Cond.code yX0_isOpenFor cX0_isOpenFor 3 (some .boolean), Cond.fieldLink RX0 9 "CashAllocator$BillBook" "customer" "[I", Cond.methodLink RX0 49 yX0_openSum, Cond.instanceMethod yX0_openSum, Cond.selects RX0 yX0_openSum yX0_openSum, Cond.code yX0_openSum cX0_openSum 2 (some .int), Cond.fieldLink RX0 15 "CashAllocator$BillBook" "amount" "[I", Cond.fieldLink RX0 27 "CashAllocator$BillBook" "paid" "[I", Cond.fieldLink RX0 30 "CashAllocator$BillBook" "taken" "[I", Cond.fieldLink RX0 36 "CashAllocator$BillBook" "disputed" "[I", Cond.fieldLink RX0 42 "CashAllocator$BillBook" "writtenOff" "[I", Cond.methodLink RX3 132 yX0_dueOn, Cond.instanceMethod yX0_dueOn, Cond.selects RX0 yX0_dueOn yX0_dueOn, Cond.code yX0_dueOn cX0_dueOn 4 (some .int), Cond.fieldLink RX0 21 "CashAllocator$BillBook" "discount" "[I", Cond.methodLink RX0 53 yX0_allowsDiscount, Cond.instanceMethod yX0_allowsDiscount, Cond.selects RX0 yX0_allowsDiscount yX0_allowsDiscount, Cond.code yX0_allowsDiscount cX0_allowsDiscount 3 (some .boolean), Cond.fieldLink RX0 24 "CashAllocator$BillBook" "lastDiscountDay" "[I", Cond.methodLink RX3 209 yX1_offer, Cond.instanceMethod yX1_offer]
def wsX3_assign_r4 : List Cond := [Cond.selects RX1 yX1_offer yX1_offer, Cond.code yX1_offer cX1_offer 3 none, Cond.fieldLink RX1 9 "CashAllocator$ExactSet" "offered" "[I", Cond.fieldLink RX1 15 "CashAllocator$ExactSet" "dues" "[I", Cond.methodLink RX3 212 yX1_choose, Cond.instanceMethod yX1_choose, Cond.selects RX1 yX1_choose yX1_choose, Cond.code yX1_choose cX1_choose 2 none, Cond.methodLink RX1 25 yX1_chooseOne, Cond.instanceMethod yX1_chooseOne, Cond.selects RX1 yX1_chooseOne yX1_chooseOne, Cond.code yX1_chooseOne cX1_chooseOne 3 (some .boolean), Cond.methodLink RX1 36 yX1_find, Cond.instanceMethod yX1_find, Cond.selects RX1 yX1_find yX1_find, Cond.code yX1_find cX1_find 4 (some .int), Cond.methodLink RX1 29 yX1_chooseTwo, Cond.instanceMethod yX1_chooseTwo, Cond.selects RX1 yX1_chooseTwo yX1_chooseTwo, Cond.code yX1_chooseTwo cX1_chooseTwo 4 (some .boolean), Cond.methodLink RX1 32 yX1_chooseThree, Cond.instanceMethod yX1_chooseThree, Cond.selects RX1 yX1_chooseThree yX1_chooseThree, Cond.code yX1_chooseThree cX1_chooseThree 5 none]
def wsX3_assign_r5 : List Cond := [Cond.methodLink RX3 188 yX3_payBill, Cond.instanceMethod yX3_payBill, Cond.selects RX3 yX3_payBill yX3_payBill, Cond.code yX3_payBill cX3_payBill 7 (some .boolean), Cond.fieldLink RX3 135 "CashAllocator$BillBook" "paid" "[I", Cond.methodLink RX3 200 yX0_takeDiscount, Cond.instanceMethod yX0_takeDiscount, Cond.selects RX0 yX0_takeDiscount yX0_takeDiscount, Cond.code yX0_takeDiscount cX0_takeDiscount 4 none, Cond.fieldLink RX0 33 "CashAllocator$BillBook" "takenBy" "[I", Cond.methodLink RX3 203 yX2_addPayment, Cond.instanceMethod yX2_addPayment, Cond.selects RX2 yX2_addPayment yX2_addPayment, Cond.initialized RX2, Cond.code yX2_addPayment cX2_addPayment 4 none, Cond.fieldLink RX2 31 "CashAllocator$ReceiptBook" "sums" "[I", Cond.fieldLink RX2 34 "CashAllocator$ReceiptBook" "hasSum" "[Z", Cond.fieldLink RX2 18 "CashAllocator$ReceiptBook" "applied" "[I", Cond.fieldLink RX2 21 "CashAllocator$ReceiptBook" "unapplied" "[I", Cond.methodLink RX2 41 yX2_cell, Cond.static yX2_cell, Cond.code yX2_cell cX2_cell 2 (some .int), Cond.methodLink RX3 197 yX3_payOldestBills, Cond.instanceMethod yX3_payOldestBills]
def wsX3_assign_r6 : List Cond := [Cond.selects RX3 yX3_payOldestBills yX3_payOldestBills, Cond.code yX3_payOldestBills cX3_payOldestBills 4 none]
def wsX3_assign : List Cond := .code yX3_assign cX3_assign 3 (some .int) :: ((wsX3_assign_r1 ++ (wsX3_assign_r2 ++ (wsX3_assign_r3 ++ (wsX3_assign_r4 ++ (wsX3_assign_r5 ++ wsX3_assign_r6))))) ++ wsX30 ++ wsX20 ++ wsX10 ++ wsX00 ++ (vx_atS RX3 50 "java/lang/IllegalStateException" ["java/lang/RuntimeException", "java/lang/Exception"]).filter goodWord ++ (vx_atS RX3 149 "java/lang/IndexOutOfBoundsException" ["java/lang/RuntimeException", "java/lang/Exception"]).filter goodWord)
def wsX3_apply_r1 : List Cond := [Cond.classLink RX3 46 "java/lang/IllegalStateException", Cond.initialized "java/lang/IllegalStateException", Cond.fieldLink RX3 19 "CashAllocator" "receiptBook" "LCashAllocator$ReceiptBook;", Cond.fieldLink RX3 79 "CashAllocator$ReceiptBook" "customer" "[I", Cond.fieldLink RX3 85 "CashAllocator$ReceiptBook" "unapplied" "[I", Cond.methodLink RX3 73 yX3_requireReceipt, Cond.instanceMethod yX3_requireReceipt, Cond.selects RX3 yX3_requireReceipt yX3_requireReceipt, Cond.initialized RX3, Cond.code yX3_requireReceipt cX3_requireReceipt 2 none, Cond.classLink RX3 145 "java/lang/IndexOutOfBoundsException", Cond.initialized "java/lang/IndexOutOfBoundsException", Cond.fieldLink RX3 61 "CashAllocator$ReceiptBook" "count" "I", Cond.methodLink RX3 76 yX3_requireNotBounced, Cond.instanceMethod yX3_requireNotBounced, Cond.selects RX3 yX3_requireNotBounced yX3_requireNotBounced, Cond.code yX3_requireNotBounced cX3_requireNotBounced 2 none, Cond.fieldLink RX3 161 "CashAllocator$ReceiptBook" "isBounced" "[Z", Cond.methodLink RX3 70 yX3_payOtherBills, Cond.instanceMethod yX3_payOtherBills, Cond.selects RX3 yX3_payOtherBills yX3_payOtherBills, Cond.code yX3_payOtherBills cX3_payOtherBills 2 none, Cond.methodLink RX3 194 yX3_payExactSet, Cond.instanceMethod yX3_payExactSet]
def wsX3_apply_r2 : List Cond := [Cond.selects RX3 yX3_payExactSet yX3_payExactSet, Cond.code yX3_payExactSet cX3_payExactSet 4 none, Cond.fieldLink RX3 26 "CashAllocator" "exactSet" "LCashAllocator$ExactSet;", Cond.fieldLink RX3 158 "CashAllocator$ExactSet" "chosen" "[I", Cond.fieldLink RX3 10 "CashAllocator" "billBook" "LCashAllocator$BillBook;", Cond.fieldLink RX3 43 "CashAllocator$BillBook" "count" "I", Cond.methodLink RX3 155 yX3_chooseExactSet, Cond.instanceMethod yX3_chooseExactSet, Cond.selects RX3 yX3_chooseExactSet yX3_chooseExactSet, Cond.code yX3_chooseExactSet cX3_chooseExactSet 4 none, Cond.fieldLink RX3 30 "CashAllocator" "today" "I", Cond.methodLink RX3 206 yX1_clear, Cond.instanceMethod yX1_clear, Cond.selects RX1 yX1_clear yX1_clear, Cond.initialized RX1, Cond.code yX1_clear cX1_clear 1 none, Cond.fieldLink RX1 21 "CashAllocator$ExactSet" "count" "I", Cond.fieldLink RX1 18 "CashAllocator$ExactSet" "chosen" "[I", Cond.methodLink RX3 182 yX0_isOpenFor, Cond.instanceMethod yX0_isOpenFor, Cond.selects RX0 yX0_isOpenFor yX0_isOpenFor, Cond.initialized RX0, Cond.code yX0_isOpenFor cX0_isOpenFor 3 (some .boolean), Cond.fieldLink RX0 9 "CashAllocator$BillBook" "customer" "[I"]
def wsX3_apply_r3 : List Cond := [Cond.methodLink RX0 49 yX0_openSum, Cond.instanceMethod yX0_openSum, Cond.selects RX0 yX0_openSum yX0_openSum, Cond.code yX0_openSum cX0_openSum 2 (some .int), Cond.fieldLink RX0 15 "CashAllocator$BillBook" "amount" "[I", Cond.fieldLink RX0 27 "CashAllocator$BillBook" "paid" "[I", Cond.fieldLink RX0 30 "CashAllocator$BillBook" "taken" "[I", Cond.fieldLink RX0 36 "CashAllocator$BillBook" "disputed" "[I", Cond.fieldLink RX0 42 "CashAllocator$BillBook" "writtenOff" "[I", Cond.methodLink RX3 132 yX0_dueOn, Cond.instanceMethod yX0_dueOn, Cond.selects RX0 yX0_dueOn yX0_dueOn, Cond.code yX0_dueOn cX0_dueOn 4 (some .int), Cond.fieldLink RX0 21 "CashAllocator$BillBook" "discount" "[I", Cond.methodLink RX0 53 yX0_allowsDiscount, Cond.instanceMethod yX0_allowsDiscount, Cond.selects RX0 yX0_allowsDiscount yX0_allowsDiscount, Cond.code yX0_allowsDiscount cX0_allowsDiscount 3 (some .boolean), Cond.fieldLink RX0 24 "CashAllocator$BillBook" "lastDiscountDay" "[I", Cond.methodLink RX3 209 yX1_offer, Cond.instanceMethod yX1_offer, Cond.selects RX1 yX1_offer yX1_offer, Cond.code yX1_offer cX1_offer 3 none, Cond.fieldLink RX1 9 "CashAllocator$ExactSet" "offered" "[I"]
def wsX3_apply_r4 : List Cond := [Cond.fieldLink RX1 15 "CashAllocator$ExactSet" "dues" "[I", Cond.methodLink RX3 212 yX1_choose, Cond.instanceMethod yX1_choose, Cond.selects RX1 yX1_choose yX1_choose, Cond.code yX1_choose cX1_choose 2 none, Cond.methodLink RX1 25 yX1_chooseOne, Cond.instanceMethod yX1_chooseOne, Cond.selects RX1 yX1_chooseOne yX1_chooseOne, Cond.code yX1_chooseOne cX1_chooseOne 3 (some .boolean), Cond.methodLink RX1 36 yX1_find, Cond.instanceMethod yX1_find, Cond.selects RX1 yX1_find yX1_find, Cond.code yX1_find cX1_find 4 (some .int), Cond.methodLink RX1 29 yX1_chooseTwo, Cond.instanceMethod yX1_chooseTwo, Cond.selects RX1 yX1_chooseTwo yX1_chooseTwo, Cond.code yX1_chooseTwo cX1_chooseTwo 4 (some .boolean), Cond.methodLink RX1 32 yX1_chooseThree, Cond.instanceMethod yX1_chooseThree, Cond.selects RX1 yX1_chooseThree yX1_chooseThree, Cond.code yX1_chooseThree cX1_chooseThree 5 none, Cond.methodLink RX3 188 yX3_payBill, Cond.instanceMethod yX3_payBill, Cond.selects RX3 yX3_payBill yX3_payBill]
def wsX3_apply_r5 : List Cond := [Cond.code yX3_payBill cX3_payBill 7 (some .boolean), Cond.fieldLink RX3 135 "CashAllocator$BillBook" "paid" "[I", Cond.methodLink RX3 200 yX0_takeDiscount, Cond.instanceMethod yX0_takeDiscount, Cond.selects RX0 yX0_takeDiscount yX0_takeDiscount, Cond.code yX0_takeDiscount cX0_takeDiscount 4 none, Cond.fieldLink RX0 33 "CashAllocator$BillBook" "takenBy" "[I", Cond.methodLink RX3 203 yX2_addPayment, Cond.instanceMethod yX2_addPayment, Cond.selects RX2 yX2_addPayment yX2_addPayment, Cond.initialized RX2, Cond.code yX2_addPayment cX2_addPayment 4 none, Cond.fieldLink RX2 31 "CashAllocator$ReceiptBook" "sums" "[I", Cond.fieldLink RX2 34 "CashAllocator$ReceiptBook" "hasSum" "[Z", Cond.fieldLink RX2 18 "CashAllocator$ReceiptBook" "applied" "[I", Cond.fieldLink RX2 21 "CashAllocator$ReceiptBook" "unapplied" "[I", Cond.methodLink RX2 41 yX2_cell, Cond.static yX2_cell, Cond.code yX2_cell cX2_cell 2 (some .int), Cond.methodLink RX3 197 yX3_payOldestBills, Cond.instanceMethod yX3_payOldestBills, Cond.selects RX3 yX3_payOldestBills yX3_payOldestBills, Cond.code yX3_payOldestBills cX3_payOldestBills 4 none]
def wsX3_apply : List Cond := .code yX3_apply cX3_apply 2 (some .int) :: ((wsX3_apply_r1 ++ (wsX3_apply_r2 ++ (wsX3_apply_r3 ++ (wsX3_apply_r4 ++ wsX3_apply_r5)))) ++ wsX30 ++ wsX20 ++ wsX10 ++ wsX00 ++ (vx_atS RX3 50 "java/lang/IllegalStateException" ["java/lang/RuntimeException", "java/lang/Exception"]).filter goodWord ++ (vx_atS RX3 149 "java/lang/IndexOutOfBoundsException" ["java/lang/RuntimeException", "java/lang/Exception"]).filter goodWord)
def wsX3_payBack : List Cond := .code yX3_payBack cX3_payBack 2 (some .int) :: ([.classLink RX3 46 "java/lang/IllegalStateException", .initialized "java/lang/IllegalStateException", .fieldLink RX3 19 "CashAllocator" "receiptBook" "LCashAllocator$ReceiptBook;", .fieldLink RX3 85 "CashAllocator$ReceiptBook" "unapplied" "[I", .methodLink RX3 73 yX3_requireReceipt, .instanceMethod yX3_requireReceipt, .selects RX3 yX3_requireReceipt yX3_requireReceipt, .initialized RX3, .code yX3_requireReceipt cX3_requireReceipt 2 none, .classLink RX3 145 "java/lang/IndexOutOfBoundsException", .initialized "java/lang/IndexOutOfBoundsException", .fieldLink RX3 61 "CashAllocator$ReceiptBook" "count" "I", .methodLink RX3 76 yX3_requireNotBounced, .instanceMethod yX3_requireNotBounced, .selects RX3 yX3_requireNotBounced yX3_requireNotBounced, .code yX3_requireNotBounced cX3_requireNotBounced 2 none, .fieldLink RX3 161 "CashAllocator$ReceiptBook" "isBounced" "[Z", .methodLink RX3 92 yX2_payBackRest, .instanceMethod yX2_payBackRest, .selects RX2 yX2_payBackRest yX2_payBackRest, .initialized RX2, .code yX2_payBackRest cX2_payBackRest 3 (some .int), .fieldLink RX2 21 "CashAllocator$ReceiptBook" "unapplied" "[I", .fieldLink RX2 24 "CashAllocator$ReceiptBook" "paidBack" "[I"] ++ wsX30 ++ wsX20 ++ (vx_atS RX3 50 "java/lang/IllegalStateException" ["java/lang/RuntimeException", "java/lang/Exception"]).filter goodWord ++ (vx_atS RX3 149 "java/lang/IndexOutOfBoundsException" ["java/lang/RuntimeException", "java/lang/Exception"]).filter goodWord)
def wsX3_bounce_r1 : List Cond := [Cond.classLink RX3 46 "java/lang/IllegalStateException", Cond.initialized "java/lang/IllegalStateException", Cond.fieldLink RX3 19 "CashAllocator" "receiptBook" "LCashAllocator$ReceiptBook;", Cond.fieldLink RX3 96 "CashAllocator$ReceiptBook" "paidBack" "[I", Cond.fieldLink RX3 10 "CashAllocator" "billBook" "LCashAllocator$BillBook;", Cond.fieldLink RX3 43 "CashAllocator$BillBook" "count" "I", Cond.methodLink RX3 73 yX3_requireReceipt, Cond.instanceMethod yX3_requireReceipt, Cond.selects RX3 yX3_requireReceipt yX3_requireReceipt, Cond.initialized RX3, Cond.code yX3_requireReceipt cX3_requireReceipt 2 none, Cond.classLink RX3 145 "java/lang/IndexOutOfBoundsException", Cond.initialized "java/lang/IndexOutOfBoundsException", Cond.fieldLink RX3 61 "CashAllocator$ReceiptBook" "count" "I", Cond.methodLink RX3 76 yX3_requireNotBounced, Cond.instanceMethod yX3_requireNotBounced, Cond.selects RX3 yX3_requireNotBounced yX3_requireNotBounced, Cond.code yX3_requireNotBounced cX3_requireNotBounced 2 none, Cond.fieldLink RX3 161 "CashAllocator$ReceiptBook" "isBounced" "[Z", Cond.methodLink RX3 101 yX2_hasPaid, Cond.instanceMethod yX2_hasPaid, Cond.selects RX2 yX2_hasPaid yX2_hasPaid, Cond.initialized RX2, Cond.code yX2_hasPaid cX2_hasPaid 3 (some .boolean)]
def wsX3_bounce_r2 : List Cond := [Cond.fieldLink RX2 34 "CashAllocator$ReceiptBook" "hasSum" "[Z", Cond.methodLink RX2 41 yX2_cell, Cond.static yX2_cell, Cond.code yX2_cell cX2_cell 2 (some .int), Cond.methodLink RX3 105 yX2_paidOf, Cond.instanceMethod yX2_paidOf, Cond.selects RX2 yX2_paidOf yX2_paidOf, Cond.code yX2_paidOf cX2_paidOf 3 (some .int), Cond.fieldLink RX2 31 "CashAllocator$ReceiptBook" "sums" "[I", Cond.methodLink RX3 108 yX0_undo, Cond.instanceMethod yX0_undo, Cond.selects RX0 yX0_undo yX0_undo, Cond.initialized RX0, Cond.code yX0_undo cX0_undo 4 none, Cond.fieldLink RX0 27 "CashAllocator$BillBook" "paid" "[I", Cond.fieldLink RX0 33 "CashAllocator$BillBook" "takenBy" "[I", Cond.fieldLink RX0 30 "CashAllocator$BillBook" "taken" "[I", Cond.fieldLink RX0 39 "CashAllocator$BillBook" "disputedBy" "[I", Cond.methodLink RX0 57 yX0_endDispute, Cond.instanceMethod yX0_endDispute, Cond.selects RX0 yX0_endDispute yX0_endDispute, Cond.code yX0_endDispute cX0_endDispute 4 (some .int), Cond.fieldLink RX0 36 "CashAllocator$BillBook" "disputed" "[I", Cond.fieldLink RX0 42 "CashAllocator$BillBook" "writtenOff" "[I"]
def wsX3_bounce_r3 : List Cond := [Cond.methodLink RX3 111 yX2_dropPayment, Cond.instanceMethod yX2_dropPayment, Cond.selects RX2 yX2_dropPayment yX2_dropPayment, Cond.code yX2_dropPayment cX2_dropPayment 3 none, Cond.fieldLink RX2 18 "CashAllocator$ReceiptBook" "applied" "[I", Cond.methodLink RX3 114 yX2_markBounced, Cond.instanceMethod yX2_markBounced, Cond.selects RX2 yX2_markBounced yX2_markBounced, Cond.code yX2_markBounced cX2_markBounced 2 none, Cond.fieldLink RX2 21 "CashAllocator$ReceiptBook" "unapplied" "[I", Cond.fieldLink RX2 27 "CashAllocator$ReceiptBook" "isBounced" "[Z"]
def wsX3_bounce : List Cond := .code yX3_bounce cX3_bounce 4 (some .int) :: ((wsX3_bounce_r1 ++ (wsX3_bounce_r2 ++ wsX3_bounce_r3)) ++ wsX30 ++ wsX20 ++ wsX00 ++ (vx_atS RX3 50 "java/lang/IllegalStateException" ["java/lang/RuntimeException", "java/lang/Exception"]).filter goodWord ++ (vx_atS RX3 149 "java/lang/IndexOutOfBoundsException" ["java/lang/RuntimeException", "java/lang/Exception"]).filter goodWord)
def wsX3_requireBill : List Cond := .code yX3_requireBill cX3_requireBill 2 none :: ([.classLink RX3 145 "java/lang/IndexOutOfBoundsException", .initialized "java/lang/IndexOutOfBoundsException", .fieldLink RX3 10 "CashAllocator" "billBook" "LCashAllocator$BillBook;", .fieldLink RX3 43 "CashAllocator$BillBook" "count" "I"] ++ wsX30 ++ wsX00 ++ (vx_atS RX3 149 "java/lang/IndexOutOfBoundsException" ["java/lang/RuntimeException", "java/lang/Exception"]).filter goodWord)
def wsX3_settle : List Cond := .code yX3_settle cX3_settle 3 (some .int) :: ([.classLink RX3 46 "java/lang/IllegalStateException", .initialized "java/lang/IllegalStateException", .fieldLink RX3 10 "CashAllocator" "billBook" "LCashAllocator$BillBook;", .fieldLink RX3 120 "CashAllocator$BillBook" "disputed" "[I", .methodLink RX3 117 yX3_requireBill, .instanceMethod yX3_requireBill, .selects RX3 yX3_requireBill yX3_requireBill, .initialized RX3, .code yX3_requireBill cX3_requireBill 2 none, .classLink RX3 145 "java/lang/IndexOutOfBoundsException", .initialized "java/lang/IndexOutOfBoundsException", .fieldLink RX3 43 "CashAllocator$BillBook" "count" "I", .methodLink RX3 125 yX0_endDispute, .instanceMethod yX0_endDispute, .selects RX0 yX0_endDispute yX0_endDispute, .initialized RX0, .code yX0_endDispute cX0_endDispute 4 (some .int), .fieldLink RX0 36 "CashAllocator$BillBook" "disputed" "[I", .fieldLink RX0 42 "CashAllocator$BillBook" "writtenOff" "[I", .fieldLink RX0 39 "CashAllocator$BillBook" "disputedBy" "[I"] ++ wsX30 ++ wsX00 ++ (vx_atS RX3 50 "java/lang/IllegalStateException" ["java/lang/RuntimeException", "java/lang/Exception"]).filter goodWord ++ (vx_atS RX3 149 "java/lang/IndexOutOfBoundsException" ["java/lang/RuntimeException", "java/lang/Exception"]).filter goodWord)
def wsX3_advance : List Cond := .code yX3_advance cX3_advance 2 (some .int) :: ([.fieldLink RX3 30 "CashAllocator" "today" "I", .methodLink RX3 39 yX3_requireWithin, .static yX3_requireWithin, .initialized RX3, .code yX3_requireWithin cX3_requireWithin 3 none, .classLink RX3 150 "java/lang/IllegalArgumentException", .initialized "java/lang/IllegalArgumentException"] ++ wsX30 ++ (vx_atS RX3 154 "java/lang/IllegalArgumentException" ["java/lang/RuntimeException", "java/lang/Exception"]).filter goodWord)
def wsX3_bills : List Cond := .code yX3_bills cX3_bills 1 (some .int) :: ([.fieldLink RX3 10 "CashAllocator" "billBook" "LCashAllocator$BillBook;", .fieldLink RX3 43 "CashAllocator$BillBook" "count" "I"] ++ wsX30 ++ wsX00)
def wsX3_open : List Cond := .code yX3_open cX3_open 2 (some .int) :: ([.fieldLink RX3 10 "CashAllocator" "billBook" "LCashAllocator$BillBook;", .methodLink RX3 117 yX3_requireBill, .instanceMethod yX3_requireBill, .selects RX3 yX3_requireBill yX3_requireBill, .initialized RX3, .code yX3_requireBill cX3_requireBill 2 none, .classLink RX3 145 "java/lang/IndexOutOfBoundsException", .initialized "java/lang/IndexOutOfBoundsException", .fieldLink RX3 43 "CashAllocator$BillBook" "count" "I", .methodLink RX3 129 yX0_openSum, .instanceMethod yX0_openSum, .selects RX0 yX0_openSum yX0_openSum, .initialized RX0, .code yX0_openSum cX0_openSum 2 (some .int), .fieldLink RX0 15 "CashAllocator$BillBook" "amount" "[I", .fieldLink RX0 27 "CashAllocator$BillBook" "paid" "[I", .fieldLink RX0 30 "CashAllocator$BillBook" "taken" "[I", .fieldLink RX0 36 "CashAllocator$BillBook" "disputed" "[I", .fieldLink RX0 42 "CashAllocator$BillBook" "writtenOff" "[I"] ++ wsX30 ++ wsX00 ++ (vx_atS RX3 149 "java/lang/IndexOutOfBoundsException" ["java/lang/RuntimeException", "java/lang/Exception"]).filter goodWord)
def wsX3_due_r1 : List Cond := [Cond.fieldLink RX3 10 "CashAllocator" "billBook" "LCashAllocator$BillBook;", Cond.fieldLink RX3 30 "CashAllocator" "today" "I", Cond.methodLink RX3 117 yX3_requireBill, Cond.instanceMethod yX3_requireBill, Cond.selects RX3 yX3_requireBill yX3_requireBill, Cond.initialized RX3, Cond.code yX3_requireBill cX3_requireBill 2 none, Cond.classLink RX3 145 "java/lang/IndexOutOfBoundsException", Cond.initialized "java/lang/IndexOutOfBoundsException", Cond.fieldLink RX3 43 "CashAllocator$BillBook" "count" "I", Cond.methodLink RX3 132 yX0_dueOn, Cond.instanceMethod yX0_dueOn, Cond.selects RX0 yX0_dueOn yX0_dueOn, Cond.initialized RX0, Cond.code yX0_dueOn cX0_dueOn 4 (some .int), Cond.fieldLink RX0 21 "CashAllocator$BillBook" "discount" "[I", Cond.methodLink RX0 49 yX0_openSum, Cond.instanceMethod yX0_openSum, Cond.selects RX0 yX0_openSum yX0_openSum, Cond.code yX0_openSum cX0_openSum 2 (some .int), Cond.fieldLink RX0 15 "CashAllocator$BillBook" "amount" "[I", Cond.fieldLink RX0 27 "CashAllocator$BillBook" "paid" "[I", Cond.fieldLink RX0 30 "CashAllocator$BillBook" "taken" "[I", Cond.fieldLink RX0 36 "CashAllocator$BillBook" "disputed" "[I"]
def wsX3_due_r2 : List Cond := [Cond.fieldLink RX0 42 "CashAllocator$BillBook" "writtenOff" "[I", Cond.methodLink RX0 53 yX0_allowsDiscount, Cond.instanceMethod yX0_allowsDiscount, Cond.selects RX0 yX0_allowsDiscount yX0_allowsDiscount, Cond.code yX0_allowsDiscount cX0_allowsDiscount 3 (some .boolean), Cond.fieldLink RX0 24 "CashAllocator$BillBook" "lastDiscountDay" "[I"]
def wsX3_due : List Cond := .code yX3_due cX3_due 2 (some .int) :: ((wsX3_due_r1 ++ wsX3_due_r2) ++ wsX30 ++ wsX00 ++ (vx_atS RX3 149 "java/lang/IndexOutOfBoundsException" ["java/lang/RuntimeException", "java/lang/Exception"]).filter goodWord)
def wsX3_paid : List Cond := .code yX3_paid cX3_paid 2 (some .int) :: ([.fieldLink RX3 10 "CashAllocator" "billBook" "LCashAllocator$BillBook;", .fieldLink RX3 135 "CashAllocator$BillBook" "paid" "[I", .methodLink RX3 117 yX3_requireBill, .instanceMethod yX3_requireBill, .selects RX3 yX3_requireBill yX3_requireBill, .initialized RX3, .code yX3_requireBill cX3_requireBill 2 none, .classLink RX3 145 "java/lang/IndexOutOfBoundsException", .initialized "java/lang/IndexOutOfBoundsException", .fieldLink RX3 43 "CashAllocator$BillBook" "count" "I"] ++ wsX30 ++ wsX00 ++ (vx_atS RX3 149 "java/lang/IndexOutOfBoundsException" ["java/lang/RuntimeException", "java/lang/Exception"]).filter goodWord)
def wsX3_taken : List Cond := .code yX3_taken cX3_taken 2 (some .int) :: ([.fieldLink RX3 10 "CashAllocator" "billBook" "LCashAllocator$BillBook;", .fieldLink RX3 138 "CashAllocator$BillBook" "taken" "[I", .methodLink RX3 117 yX3_requireBill, .instanceMethod yX3_requireBill, .selects RX3 yX3_requireBill yX3_requireBill, .initialized RX3, .code yX3_requireBill cX3_requireBill 2 none, .classLink RX3 145 "java/lang/IndexOutOfBoundsException", .initialized "java/lang/IndexOutOfBoundsException", .fieldLink RX3 43 "CashAllocator$BillBook" "count" "I"] ++ wsX30 ++ wsX00 ++ (vx_atS RX3 149 "java/lang/IndexOutOfBoundsException" ["java/lang/RuntimeException", "java/lang/Exception"]).filter goodWord)
def wsX3_disputed : List Cond := .code yX3_disputed cX3_disputed 2 (some .int) :: ([.fieldLink RX3 10 "CashAllocator" "billBook" "LCashAllocator$BillBook;", .fieldLink RX3 120 "CashAllocator$BillBook" "disputed" "[I", .methodLink RX3 117 yX3_requireBill, .instanceMethod yX3_requireBill, .selects RX3 yX3_requireBill yX3_requireBill, .initialized RX3, .code yX3_requireBill cX3_requireBill 2 none, .classLink RX3 145 "java/lang/IndexOutOfBoundsException", .initialized "java/lang/IndexOutOfBoundsException", .fieldLink RX3 43 "CashAllocator$BillBook" "count" "I"] ++ wsX30 ++ wsX00 ++ (vx_atS RX3 149 "java/lang/IndexOutOfBoundsException" ["java/lang/RuntimeException", "java/lang/Exception"]).filter goodWord)
def wsX3_writtenOff : List Cond := .code yX3_writtenOff cX3_writtenOff 2 (some .int) :: ([.fieldLink RX3 10 "CashAllocator" "billBook" "LCashAllocator$BillBook;", .fieldLink RX3 141 "CashAllocator$BillBook" "writtenOff" "[I", .methodLink RX3 117 yX3_requireBill, .instanceMethod yX3_requireBill, .selects RX3 yX3_requireBill yX3_requireBill, .initialized RX3, .code yX3_requireBill cX3_requireBill 2 none, .classLink RX3 145 "java/lang/IndexOutOfBoundsException", .initialized "java/lang/IndexOutOfBoundsException", .fieldLink RX3 43 "CashAllocator$BillBook" "count" "I"] ++ wsX30 ++ wsX00 ++ (vx_atS RX3 149 "java/lang/IndexOutOfBoundsException" ["java/lang/RuntimeException", "java/lang/Exception"]).filter goodWord)
def wsX3_openOf : List Cond := .code yX3_openOf cX3_openOf 4 (some .int) :: ([.fieldLink RX3 10 "CashAllocator" "billBook" "LCashAllocator$BillBook;", .fieldLink RX3 43 "CashAllocator$BillBook" "count" "I", .fieldLink RX3 144 "CashAllocator$BillBook" "customer" "[I", .methodLink RX3 34 yX3_requireCustomer, .static yX3_requireCustomer, .initialized RX3, .code yX3_requireCustomer cX3_requireCustomer 1 none, .classLink RX3 145 "java/lang/IndexOutOfBoundsException", .initialized "java/lang/IndexOutOfBoundsException", .methodLink RX3 129 yX0_openSum, .instanceMethod yX0_openSum, .selects RX0 yX0_openSum yX0_openSum, .initialized RX0, .code yX0_openSum cX0_openSum 2 (some .int), .fieldLink RX0 15 "CashAllocator$BillBook" "amount" "[I", .fieldLink RX0 27 "CashAllocator$BillBook" "paid" "[I", .fieldLink RX0 30 "CashAllocator$BillBook" "taken" "[I", .fieldLink RX0 36 "CashAllocator$BillBook" "disputed" "[I", .fieldLink RX0 42 "CashAllocator$BillBook" "writtenOff" "[I"] ++ wsX30 ++ wsX00 ++ (vx_atS RX3 149 "java/lang/IndexOutOfBoundsException" ["java/lang/RuntimeException", "java/lang/Exception"]).filter goodWord)
def wsX3_setFor_r1 : List Cond := [Cond.classLink RX3 145 "java/lang/IndexOutOfBoundsException", Cond.initialized "java/lang/IndexOutOfBoundsException", Cond.classLink RX3 150 "java/lang/IllegalArgumentException", Cond.initialized "java/lang/IllegalArgumentException", Cond.fieldLink RX3 26 "CashAllocator" "exactSet" "LCashAllocator$ExactSet;", Cond.fieldLink RX3 158 "CashAllocator$ExactSet" "chosen" "[I", Cond.methodLink RX3 34 yX3_requireCustomer, Cond.static yX3_requireCustomer, Cond.initialized RX3, Cond.code yX3_requireCustomer cX3_requireCustomer 1 none, Cond.methodLink RX3 155 yX3_chooseExactSet, Cond.instanceMethod yX3_chooseExactSet, Cond.selects RX3 yX3_chooseExactSet yX3_chooseExactSet, Cond.code yX3_chooseExactSet cX3_chooseExactSet 4 none, Cond.fieldLink RX3 10 "CashAllocator" "billBook" "LCashAllocator$BillBook;", Cond.fieldLink RX3 43 "CashAllocator$BillBook" "count" "I", Cond.fieldLink RX3 30 "CashAllocator" "today" "I", Cond.methodLink RX3 206 yX1_clear, Cond.instanceMethod yX1_clear, Cond.selects RX1 yX1_clear yX1_clear, Cond.initialized RX1, Cond.code yX1_clear cX1_clear 1 none, Cond.fieldLink RX1 21 "CashAllocator$ExactSet" "count" "I", Cond.fieldLink RX1 18 "CashAllocator$ExactSet" "chosen" "[I"]
def wsX3_setFor_r2 : List Cond := [Cond.methodLink RX3 182 yX0_isOpenFor, Cond.instanceMethod yX0_isOpenFor, Cond.selects RX0 yX0_isOpenFor yX0_isOpenFor, Cond.initialized RX0, Cond.code yX0_isOpenFor cX0_isOpenFor 3 (some .boolean), Cond.fieldLink RX0 9 "CashAllocator$BillBook" "customer" "[I", Cond.methodLink RX0 49 yX0_openSum, Cond.instanceMethod yX0_openSum, Cond.selects RX0 yX0_openSum yX0_openSum, Cond.code yX0_openSum cX0_openSum 2 (some .int), Cond.fieldLink RX0 15 "CashAllocator$BillBook" "amount" "[I", Cond.fieldLink RX0 27 "CashAllocator$BillBook" "paid" "[I", Cond.fieldLink RX0 30 "CashAllocator$BillBook" "taken" "[I", Cond.fieldLink RX0 36 "CashAllocator$BillBook" "disputed" "[I", Cond.fieldLink RX0 42 "CashAllocator$BillBook" "writtenOff" "[I", Cond.methodLink RX3 132 yX0_dueOn, Cond.instanceMethod yX0_dueOn, Cond.selects RX0 yX0_dueOn yX0_dueOn, Cond.code yX0_dueOn cX0_dueOn 4 (some .int), Cond.fieldLink RX0 21 "CashAllocator$BillBook" "discount" "[I", Cond.methodLink RX0 53 yX0_allowsDiscount, Cond.instanceMethod yX0_allowsDiscount, Cond.selects RX0 yX0_allowsDiscount yX0_allowsDiscount, Cond.code yX0_allowsDiscount cX0_allowsDiscount 3 (some .boolean)]
def wsX3_setFor_r3 : List Cond := [Cond.fieldLink RX0 24 "CashAllocator$BillBook" "lastDiscountDay" "[I", Cond.methodLink RX3 209 yX1_offer, Cond.instanceMethod yX1_offer, Cond.selects RX1 yX1_offer yX1_offer, Cond.code yX1_offer cX1_offer 3 none, Cond.fieldLink RX1 9 "CashAllocator$ExactSet" "offered" "[I", Cond.fieldLink RX1 15 "CashAllocator$ExactSet" "dues" "[I", Cond.methodLink RX3 212 yX1_choose, Cond.instanceMethod yX1_choose, Cond.selects RX1 yX1_choose yX1_choose, Cond.code yX1_choose cX1_choose 2 none, Cond.methodLink RX1 25 yX1_chooseOne, Cond.instanceMethod yX1_chooseOne, Cond.selects RX1 yX1_chooseOne yX1_chooseOne, Cond.code yX1_chooseOne cX1_chooseOne 3 (some .boolean), Cond.methodLink RX1 36 yX1_find, Cond.instanceMethod yX1_find, Cond.selects RX1 yX1_find yX1_find, Cond.code yX1_find cX1_find 4 (some .int), Cond.methodLink RX1 29 yX1_chooseTwo, Cond.instanceMethod yX1_chooseTwo, Cond.selects RX1 yX1_chooseTwo yX1_chooseTwo, Cond.code yX1_chooseTwo cX1_chooseTwo 4 (some .boolean), Cond.methodLink RX1 32 yX1_chooseThree]
def wsX3_setFor_r4 : List Cond := [Cond.instanceMethod yX1_chooseThree, Cond.selects RX1 yX1_chooseThree yX1_chooseThree, Cond.code yX1_chooseThree cX1_chooseThree 5 none]
def wsX3_setFor : List Cond := .code yX3_setFor cX3_setFor 4 (some .int) :: ((wsX3_setFor_r1 ++ (wsX3_setFor_r2 ++ (wsX3_setFor_r3 ++ wsX3_setFor_r4))) ++ wsX30 ++ wsX10 ++ wsX00 ++ (vx_atS RX3 149 "java/lang/IndexOutOfBoundsException" ["java/lang/RuntimeException", "java/lang/Exception"]).filter goodWord ++ (vx_atS RX3 154 "java/lang/IllegalArgumentException" ["java/lang/RuntimeException", "java/lang/Exception"]).filter goodWord)
def wsX3_receipts : List Cond := .code yX3_receipts cX3_receipts 1 (some .int) :: ([.fieldLink RX3 19 "CashAllocator" "receiptBook" "LCashAllocator$ReceiptBook;", .fieldLink RX3 61 "CashAllocator$ReceiptBook" "count" "I"] ++ wsX30 ++ wsX20)
def wsX3_customerOf : List Cond := .code yX3_customerOf cX3_customerOf 2 (some .int) :: ([.fieldLink RX3 19 "CashAllocator" "receiptBook" "LCashAllocator$ReceiptBook;", .fieldLink RX3 79 "CashAllocator$ReceiptBook" "customer" "[I", .methodLink RX3 73 yX3_requireReceipt, .instanceMethod yX3_requireReceipt, .selects RX3 yX3_requireReceipt yX3_requireReceipt, .initialized RX3, .code yX3_requireReceipt cX3_requireReceipt 2 none, .classLink RX3 145 "java/lang/IndexOutOfBoundsException", .initialized "java/lang/IndexOutOfBoundsException", .fieldLink RX3 61 "CashAllocator$ReceiptBook" "count" "I"] ++ wsX30 ++ wsX20 ++ (vx_atS RX3 149 "java/lang/IndexOutOfBoundsException" ["java/lang/RuntimeException", "java/lang/Exception"]).filter goodWord)
def wsX3_appliedTo : List Cond := .code yX3_appliedTo cX3_appliedTo 3 (some .int) :: ([.fieldLink RX3 19 "CashAllocator" "receiptBook" "LCashAllocator$ReceiptBook;", .methodLink RX3 73 yX3_requireReceipt, .instanceMethod yX3_requireReceipt, .selects RX3 yX3_requireReceipt yX3_requireReceipt, .initialized RX3, .code yX3_requireReceipt cX3_requireReceipt 2 none, .classLink RX3 145 "java/lang/IndexOutOfBoundsException", .initialized "java/lang/IndexOutOfBoundsException", .fieldLink RX3 61 "CashAllocator$ReceiptBook" "count" "I", .methodLink RX3 117 yX3_requireBill, .instanceMethod yX3_requireBill, .selects RX3 yX3_requireBill yX3_requireBill, .code yX3_requireBill cX3_requireBill 2 none, .fieldLink RX3 10 "CashAllocator" "billBook" "LCashAllocator$BillBook;", .fieldLink RX3 43 "CashAllocator$BillBook" "count" "I", .methodLink RX3 105 yX2_paidOf, .instanceMethod yX2_paidOf, .selects RX2 yX2_paidOf yX2_paidOf, .initialized RX2, .code yX2_paidOf cX2_paidOf 3 (some .int), .fieldLink RX2 31 "CashAllocator$ReceiptBook" "sums" "[I", .methodLink RX2 41 yX2_cell, .static yX2_cell, .code yX2_cell cX2_cell 2 (some .int)] ++ wsX30 ++ wsX20 ++ wsX00 ++ (vx_atS RX3 149 "java/lang/IndexOutOfBoundsException" ["java/lang/RuntimeException", "java/lang/Exception"]).filter goodWord)
def wsX3_unapplied : List Cond := .code yX3_unapplied cX3_unapplied 2 (some .int) :: ([.fieldLink RX3 19 "CashAllocator" "receiptBook" "LCashAllocator$ReceiptBook;", .fieldLink RX3 85 "CashAllocator$ReceiptBook" "unapplied" "[I", .methodLink RX3 73 yX3_requireReceipt, .instanceMethod yX3_requireReceipt, .selects RX3 yX3_requireReceipt yX3_requireReceipt, .initialized RX3, .code yX3_requireReceipt cX3_requireReceipt 2 none, .classLink RX3 145 "java/lang/IndexOutOfBoundsException", .initialized "java/lang/IndexOutOfBoundsException", .fieldLink RX3 61 "CashAllocator$ReceiptBook" "count" "I"] ++ wsX30 ++ wsX20 ++ (vx_atS RX3 149 "java/lang/IndexOutOfBoundsException" ["java/lang/RuntimeException", "java/lang/Exception"]).filter goodWord)
def wsX3_hasBounced : List Cond := .code yX3_hasBounced cX3_hasBounced 2 (some .boolean) :: ([.fieldLink RX3 19 "CashAllocator" "receiptBook" "LCashAllocator$ReceiptBook;", .fieldLink RX3 161 "CashAllocator$ReceiptBook" "isBounced" "[Z", .methodLink RX3 73 yX3_requireReceipt, .instanceMethod yX3_requireReceipt, .selects RX3 yX3_requireReceipt yX3_requireReceipt, .initialized RX3, .code yX3_requireReceipt cX3_requireReceipt 2 none, .classLink RX3 145 "java/lang/IndexOutOfBoundsException", .initialized "java/lang/IndexOutOfBoundsException", .fieldLink RX3 61 "CashAllocator$ReceiptBook" "count" "I"] ++ wsX30 ++ wsX20 ++ (vx_atS RX3 149 "java/lang/IndexOutOfBoundsException" ["java/lang/RuntimeException", "java/lang/Exception"]).filter goodWord)
def wsX3_day : List Cond := .code yX3_day cX3_day 1 (some .int) :: ([.fieldLink RX3 30 "CashAllocator" "today" "I"] ++ wsX30)
def wsX3_received : List Cond := .code yX3_received cX3_received 1 (some .int) :: ([.fieldLink RX3 19 "CashAllocator" "receiptBook" "LCashAllocator$ReceiptBook;", .fieldLink RX3 165 "CashAllocator$ReceiptBook" "amount" "[I", .methodLink RX3 168 yX2_totalOf, .instanceMethod yX2_totalOf, .selects RX2 yX2_totalOf yX2_totalOf, .initialized RX2, .code yX2_totalOf cX2_totalOf 4 (some .int), .fieldLink RX2 37 "CashAllocator$ReceiptBook" "count" "I"] ++ wsX30 ++ wsX20)
def wsX3_applied : List Cond := .code yX3_applied cX3_applied 1 (some .int) :: ([.fieldLink RX3 19 "CashAllocator" "receiptBook" "LCashAllocator$ReceiptBook;", .fieldLink RX3 172 "CashAllocator$ReceiptBook" "applied" "[I", .methodLink RX3 168 yX2_totalOf, .instanceMethod yX2_totalOf, .selects RX2 yX2_totalOf yX2_totalOf, .initialized RX2, .code yX2_totalOf cX2_totalOf 4 (some .int), .fieldLink RX2 37 "CashAllocator$ReceiptBook" "count" "I"] ++ wsX30 ++ wsX20)
def wsX3_allUnapplied : List Cond := .code yX3_allUnapplied cX3_allUnapplied 1 (some .int) :: ([.fieldLink RX3 19 "CashAllocator" "receiptBook" "LCashAllocator$ReceiptBook;", .fieldLink RX3 85 "CashAllocator$ReceiptBook" "unapplied" "[I", .methodLink RX3 168 yX2_totalOf, .instanceMethod yX2_totalOf, .selects RX2 yX2_totalOf yX2_totalOf, .initialized RX2, .code yX2_totalOf cX2_totalOf 4 (some .int), .fieldLink RX2 37 "CashAllocator$ReceiptBook" "count" "I"] ++ wsX30 ++ wsX20)
def wsX3_paidBack : List Cond := .code yX3_paidBack cX3_paidBack 1 (some .int) :: ([.fieldLink RX3 19 "CashAllocator" "receiptBook" "LCashAllocator$ReceiptBook;", .fieldLink RX3 96 "CashAllocator$ReceiptBook" "paidBack" "[I", .methodLink RX3 168 yX2_totalOf, .instanceMethod yX2_totalOf, .selects RX2 yX2_totalOf yX2_totalOf, .initialized RX2, .code yX2_totalOf cX2_totalOf 4 (some .int), .fieldLink RX2 37 "CashAllocator$ReceiptBook" "count" "I"] ++ wsX30 ++ wsX20)
def wsX3_bounced : List Cond := .code yX3_bounced cX3_bounced 1 (some .int) :: ([.fieldLink RX3 19 "CashAllocator" "receiptBook" "LCashAllocator$ReceiptBook;", .methodLink RX3 175 yX2_bouncedTotal, .instanceMethod yX2_bouncedTotal, .selects RX2 yX2_bouncedTotal yX2_bouncedTotal, .initialized RX2, .code yX2_bouncedTotal cX2_bouncedTotal 3 (some .int), .fieldLink RX2 37 "CashAllocator$ReceiptBook" "count" "I", .fieldLink RX2 27 "CashAllocator$ReceiptBook" "isBounced" "[Z", .fieldLink RX2 15 "CashAllocator$ReceiptBook" "amount" "[I"] ++ wsX30 ++ wsX20)
def wsX4_init_r1 : List Cond := [Cond.methodLink RX4 1 objectInit, Cond.instanceMethod objectInit, Cond.code objectInit ⟨#[0xb1]⟩ 1 none, Cond.arrayClass .int, Cond.fieldLink RX4 7 "CashAllocatorModel" "owners" "[I", Cond.fieldLink RX4 13 "CashAllocatorModel" "amounts" "[I", Cond.fieldLink RX4 16 "CashAllocatorModel" "references" "[I", Cond.fieldLink RX4 19 "CashAllocatorModel" "days" "[I", Cond.fieldLink RX4 22 "CashAllocatorModel" "rates" "[I", Cond.fieldLink RX4 25 "CashAllocatorModel" "spans" "[I", Cond.fieldLink RX4 28 "CashAllocatorModel" "paidOf" "[I", Cond.fieldLink RX4 31 "CashAllocatorModel" "takenOf" "[I", Cond.fieldLink RX4 34 "CashAllocatorModel" "takers" "[I", Cond.fieldLink RX4 37 "CashAllocatorModel" "disputedOf" "[I", Cond.fieldLink RX4 40 "CashAllocatorModel" "raisers" "[I", Cond.fieldLink RX4 43 "CashAllocatorModel" "writtenOf" "[I", Cond.fieldLink RX4 46 "CashAllocatorModel" "sums" "[I", Cond.fieldLink RX4 49 "CashAllocatorModel" "payers" "[I", Cond.fieldLink RX4 52 "CashAllocatorModel" "left" "[I", Cond.fieldLink RX4 55 "CashAllocatorModel" "backs" "[I", Cond.arrayClass .boolean, Cond.fieldLink RX4 58 "CashAllocatorModel" "isBounced" "[Z", Cond.fieldLink RX4 62 "CashAllocatorModel" "paidBy" "[I", Cond.fieldLink RX4 65 "CashAllocatorModel" "hasPaid" "[Z"]
def wsX4_init_r2 : List Cond := [Cond.fieldLink RX4 68 "CashAllocatorModel" "chosen" "[I"]
def wsX4_init : List Cond := .code yX4_init cX4_init 1 none :: ((wsX4_init_r1 ++ wsX4_init_r2) ++ wsX40)
def wsX4_thrown : List Cond := .code yX4_thrown cX4_thrown 1 (some .int) :: ([.fieldLink RX4 71 "CashAllocatorModel" "refusal" "I"] ++ wsX40)
def wsX4_refused : List Cond := .code yX4_refused cX4_refused 2 (some .boolean) :: ([.fieldLink RX4 71 "CashAllocatorModel" "refusal" "I"] ++ wsX40)
def wsX4_fine : List Cond := .code yX4_fine cX4_fine 2 (some .int) :: ([.fieldLink RX4 71 "CashAllocatorModel" "refusal" "I"] ++ wsX40)
def wsX4_in : List Cond := .code yX4_in cX4_in 3 (some .boolean) :: ([])
def wsX4_isCustomer : List Cond := .code yX4_isCustomer cX4_isCustomer 1 (some .boolean) :: ([.methodLink RX4 75 yX4_in, .static yX4_in, .initialized RX4, .code yX4_in cX4_in 3 (some .boolean)])
def wsX4_isBill : List Cond := .code yX4_isBill cX4_isBill 2 (some .boolean) :: ([.fieldLink RX4 79 "CashAllocatorModel" "bills" "I", .methodLink RX4 75 yX4_in, .static yX4_in, .initialized RX4, .code yX4_in cX4_in 3 (some .boolean)] ++ wsX40)
def wsX4_isReceipt : List Cond := .code yX4_isReceipt cX4_isReceipt 2 (some .boolean) :: ([.fieldLink RX4 82 "CashAllocatorModel" "receipts" "I", .methodLink RX4 75 yX4_in, .static yX4_in, .initialized RX4, .code yX4_in cX4_in 3 (some .boolean)] ++ wsX40)
def wsX4_openNow : List Cond := .code yX4_openNow cX4_openNow 2 (some .int) :: ([.fieldLink RX4 13 "CashAllocatorModel" "amounts" "[I", .fieldLink RX4 28 "CashAllocatorModel" "paidOf" "[I", .fieldLink RX4 31 "CashAllocatorModel" "takenOf" "[I", .fieldLink RX4 37 "CashAllocatorModel" "disputedOf" "[I", .fieldLink RX4 43 "CashAllocatorModel" "writtenOf" "[I"] ++ wsX40)
def wsX4_discount : List Cond := .code yX4_discount cX4_discount 3 (some .int) :: ([.fieldLink RX4 13 "CashAllocatorModel" "amounts" "[I", .fieldLink RX4 89 "CashAllocatorModel" "day" "I", .fieldLink RX4 19 "CashAllocatorModel" "days" "[I", .fieldLink RX4 25 "CashAllocatorModel" "spans" "[I", .fieldLink RX4 22 "CashAllocatorModel" "rates" "[I", .constantLong RX4 92 (10000), .methodLink RX4 85 yX4_openNow, .instanceMethod yX4_openNow, .selects RX4 yX4_openNow yX4_openNow, .initialized RX4, .code yX4_openNow cX4_openNow 2 (some .int), .fieldLink RX4 28 "CashAllocatorModel" "paidOf" "[I", .fieldLink RX4 31 "CashAllocatorModel" "takenOf" "[I", .fieldLink RX4 37 "CashAllocatorModel" "disputedOf" "[I", .fieldLink RX4 43 "CashAllocatorModel" "writtenOf" "[I"] ++ wsX40)
def wsX4_dueNow : List Cond := .code yX4_dueNow cX4_dueNow 2 (some .int) :: ([.methodLink RX4 85 yX4_openNow, .instanceMethod yX4_openNow, .selects RX4 yX4_openNow yX4_openNow, .initialized RX4, .code yX4_openNow cX4_openNow 2 (some .int), .fieldLink RX4 13 "CashAllocatorModel" "amounts" "[I", .fieldLink RX4 28 "CashAllocatorModel" "paidOf" "[I", .fieldLink RX4 31 "CashAllocatorModel" "takenOf" "[I", .fieldLink RX4 37 "CashAllocatorModel" "disputedOf" "[I", .fieldLink RX4 43 "CashAllocatorModel" "writtenOf" "[I", .methodLink RX4 94 yX4_discount, .instanceMethod yX4_discount, .selects RX4 yX4_discount yX4_discount, .code yX4_discount cX4_discount 3 (some .int), .fieldLink RX4 89 "CashAllocatorModel" "day" "I", .fieldLink RX4 19 "CashAllocatorModel" "days" "[I", .fieldLink RX4 25 "CashAllocatorModel" "spans" "[I", .fieldLink RX4 22 "CashAllocatorModel" "rates" "[I", .constantLong RX4 92 (10000)] ++ wsX40)
def wsX4_pay_r1 : List Cond := [Cond.fieldLink RX4 52 "CashAllocatorModel" "left" "[I", Cond.fieldLink RX4 31 "CashAllocatorModel" "takenOf" "[I", Cond.fieldLink RX4 34 "CashAllocatorModel" "takers" "[I", Cond.fieldLink RX4 28 "CashAllocatorModel" "paidOf" "[I", Cond.fieldLink RX4 62 "CashAllocatorModel" "paidBy" "[I", Cond.fieldLink RX4 65 "CashAllocatorModel" "hasPaid" "[Z", Cond.methodLink RX4 97 yX4_dueNow, Cond.instanceMethod yX4_dueNow, Cond.selects RX4 yX4_dueNow yX4_dueNow, Cond.initialized RX4, Cond.code yX4_dueNow cX4_dueNow 2 (some .int), Cond.methodLink RX4 85 yX4_openNow, Cond.instanceMethod yX4_openNow, Cond.selects RX4 yX4_openNow yX4_openNow, Cond.code yX4_openNow cX4_openNow 2 (some .int), Cond.fieldLink RX4 13 "CashAllocatorModel" "amounts" "[I", Cond.fieldLink RX4 37 "CashAllocatorModel" "disputedOf" "[I", Cond.fieldLink RX4 43 "CashAllocatorModel" "writtenOf" "[I", Cond.methodLink RX4 94 yX4_discount, Cond.instanceMethod yX4_discount, Cond.selects RX4 yX4_discount yX4_discount, Cond.code yX4_discount cX4_discount 3 (some .int), Cond.fieldLink RX4 89 "CashAllocatorModel" "day" "I", Cond.fieldLink RX4 19 "CashAllocatorModel" "days" "[I"]
def wsX4_pay_r2 : List Cond := [Cond.fieldLink RX4 25 "CashAllocatorModel" "spans" "[I", Cond.fieldLink RX4 22 "CashAllocatorModel" "rates" "[I", Cond.constantLong RX4 92 (10000)]
def wsX4_pay : List Cond := .code yX4_pay cX4_pay 7 (some .boolean) :: ((wsX4_pay_r1 ++ wsX4_pay_r2) ++ wsX40)
def wsX4_dispute : List Cond := .code yX4_dispute cX4_dispute 3 none :: ([.fieldLink RX4 37 "CashAllocatorModel" "disputedOf" "[I", .fieldLink RX4 40 "CashAllocatorModel" "raisers" "[I", .methodLink RX4 85 yX4_openNow, .instanceMethod yX4_openNow, .selects RX4 yX4_openNow yX4_openNow, .initialized RX4, .code yX4_openNow cX4_openNow 2 (some .int), .fieldLink RX4 13 "CashAllocatorModel" "amounts" "[I", .fieldLink RX4 28 "CashAllocatorModel" "paidOf" "[I", .fieldLink RX4 31 "CashAllocatorModel" "takenOf" "[I", .fieldLink RX4 43 "CashAllocatorModel" "writtenOf" "[I"] ++ wsX40)
def wsX4_payNamed_r1 : List Cond := [Cond.fieldLink RX4 79 "CashAllocatorModel" "bills" "I", Cond.fieldLink RX4 49 "CashAllocatorModel" "payers" "[I", Cond.fieldLink RX4 16 "CashAllocatorModel" "references" "[I", Cond.fieldLink RX4 7 "CashAllocatorModel" "owners" "[I", Cond.fieldLink RX4 52 "CashAllocatorModel" "left" "[I", Cond.methodLink RX4 85 yX4_openNow, Cond.instanceMethod yX4_openNow, Cond.selects RX4 yX4_openNow yX4_openNow, Cond.initialized RX4, Cond.code yX4_openNow cX4_openNow 2 (some .int), Cond.fieldLink RX4 13 "CashAllocatorModel" "amounts" "[I", Cond.fieldLink RX4 28 "CashAllocatorModel" "paidOf" "[I", Cond.fieldLink RX4 31 "CashAllocatorModel" "takenOf" "[I", Cond.fieldLink RX4 37 "CashAllocatorModel" "disputedOf" "[I", Cond.fieldLink RX4 43 "CashAllocatorModel" "writtenOf" "[I", Cond.methodLink RX4 100 yX4_pay, Cond.instanceMethod yX4_pay, Cond.selects RX4 yX4_pay yX4_pay, Cond.code yX4_pay cX4_pay 7 (some .boolean), Cond.fieldLink RX4 34 "CashAllocatorModel" "takers" "[I", Cond.fieldLink RX4 62 "CashAllocatorModel" "paidBy" "[I", Cond.fieldLink RX4 65 "CashAllocatorModel" "hasPaid" "[Z", Cond.methodLink RX4 97 yX4_dueNow, Cond.instanceMethod yX4_dueNow]
def wsX4_payNamed_r2 : List Cond := [Cond.selects RX4 yX4_dueNow yX4_dueNow, Cond.code yX4_dueNow cX4_dueNow 2 (some .int), Cond.methodLink RX4 94 yX4_discount, Cond.instanceMethod yX4_discount, Cond.selects RX4 yX4_discount yX4_discount, Cond.code yX4_discount cX4_discount 3 (some .int), Cond.fieldLink RX4 89 "CashAllocatorModel" "day" "I", Cond.fieldLink RX4 19 "CashAllocatorModel" "days" "[I", Cond.fieldLink RX4 25 "CashAllocatorModel" "spans" "[I", Cond.fieldLink RX4 22 "CashAllocatorModel" "rates" "[I", Cond.constantLong RX4 92 (10000), Cond.methodLink RX4 104 yX4_dispute, Cond.instanceMethod yX4_dispute, Cond.selects RX4 yX4_dispute yX4_dispute, Cond.code yX4_dispute cX4_dispute 3 none, Cond.fieldLink RX4 40 "CashAllocatorModel" "raisers" "[I"]
def wsX4_payNamed : List Cond := .code yX4_payNamed cX4_payNamed 5 none :: ((wsX4_payNamed_r1 ++ wsX4_payNamed_r2) ++ wsX40)
def wsX4_dueOf_r1 : List Cond := [Cond.fieldLink RX4 7 "CashAllocatorModel" "owners" "[I", Cond.methodLink RX4 108 yX4_isBill, Cond.instanceMethod yX4_isBill, Cond.selects RX4 yX4_isBill yX4_isBill, Cond.initialized RX4, Cond.code yX4_isBill cX4_isBill 2 (some .boolean), Cond.fieldLink RX4 79 "CashAllocatorModel" "bills" "I", Cond.methodLink RX4 75 yX4_in, Cond.static yX4_in, Cond.code yX4_in cX4_in 3 (some .boolean), Cond.methodLink RX4 85 yX4_openNow, Cond.instanceMethod yX4_openNow, Cond.selects RX4 yX4_openNow yX4_openNow, Cond.code yX4_openNow cX4_openNow 2 (some .int), Cond.fieldLink RX4 13 "CashAllocatorModel" "amounts" "[I", Cond.fieldLink RX4 28 "CashAllocatorModel" "paidOf" "[I", Cond.fieldLink RX4 31 "CashAllocatorModel" "takenOf" "[I", Cond.fieldLink RX4 37 "CashAllocatorModel" "disputedOf" "[I", Cond.fieldLink RX4 43 "CashAllocatorModel" "writtenOf" "[I", Cond.methodLink RX4 97 yX4_dueNow, Cond.instanceMethod yX4_dueNow, Cond.selects RX4 yX4_dueNow yX4_dueNow, Cond.code yX4_dueNow cX4_dueNow 2 (some .int), Cond.methodLink RX4 94 yX4_discount]
def wsX4_dueOf_r2 : List Cond := [Cond.instanceMethod yX4_discount, Cond.selects RX4 yX4_discount yX4_discount, Cond.code yX4_discount cX4_discount 3 (some .int), Cond.fieldLink RX4 89 "CashAllocatorModel" "day" "I", Cond.fieldLink RX4 19 "CashAllocatorModel" "days" "[I", Cond.fieldLink RX4 25 "CashAllocatorModel" "spans" "[I", Cond.fieldLink RX4 22 "CashAllocatorModel" "rates" "[I", Cond.constantLong RX4 92 (10000)]
def wsX4_dueOf : List Cond := .code yX4_dueOf cX4_dueOf 3 (some .int) :: ((wsX4_dueOf_r1 ++ wsX4_dueOf_r2) ++ wsX40)
def wsX4_choose_r1 : List Cond := [Cond.fieldLink RX4 79 "CashAllocatorModel" "bills" "I", Cond.fieldLink RX4 68 "CashAllocatorModel" "chosen" "[I", Cond.methodLink RX4 112 yX4_dueOf, Cond.instanceMethod yX4_dueOf, Cond.selects RX4 yX4_dueOf yX4_dueOf, Cond.initialized RX4, Cond.code yX4_dueOf cX4_dueOf 3 (some .int), Cond.fieldLink RX4 7 "CashAllocatorModel" "owners" "[I", Cond.methodLink RX4 108 yX4_isBill, Cond.instanceMethod yX4_isBill, Cond.selects RX4 yX4_isBill yX4_isBill, Cond.code yX4_isBill cX4_isBill 2 (some .boolean), Cond.methodLink RX4 75 yX4_in, Cond.static yX4_in, Cond.code yX4_in cX4_in 3 (some .boolean), Cond.methodLink RX4 85 yX4_openNow, Cond.instanceMethod yX4_openNow, Cond.selects RX4 yX4_openNow yX4_openNow, Cond.code yX4_openNow cX4_openNow 2 (some .int), Cond.fieldLink RX4 13 "CashAllocatorModel" "amounts" "[I", Cond.fieldLink RX4 28 "CashAllocatorModel" "paidOf" "[I", Cond.fieldLink RX4 31 "CashAllocatorModel" "takenOf" "[I", Cond.fieldLink RX4 37 "CashAllocatorModel" "disputedOf" "[I", Cond.fieldLink RX4 43 "CashAllocatorModel" "writtenOf" "[I"]
def wsX4_choose_r2 : List Cond := [Cond.methodLink RX4 97 yX4_dueNow, Cond.instanceMethod yX4_dueNow, Cond.selects RX4 yX4_dueNow yX4_dueNow, Cond.code yX4_dueNow cX4_dueNow 2 (some .int), Cond.methodLink RX4 94 yX4_discount, Cond.instanceMethod yX4_discount, Cond.selects RX4 yX4_discount yX4_discount, Cond.code yX4_discount cX4_discount 3 (some .int), Cond.fieldLink RX4 89 "CashAllocatorModel" "day" "I", Cond.fieldLink RX4 19 "CashAllocatorModel" "days" "[I", Cond.fieldLink RX4 25 "CashAllocatorModel" "spans" "[I", Cond.fieldLink RX4 22 "CashAllocatorModel" "rates" "[I", Cond.constantLong RX4 92 (10000)]
def wsX4_choose : List Cond := .code yX4_choose cX4_choose 12 (some .int) :: ((wsX4_choose_r1 ++ wsX4_choose_r2) ++ wsX40)
def wsX4_payOthers_r1 : List Cond := [Cond.fieldLink RX4 49 "CashAllocatorModel" "payers" "[I", Cond.fieldLink RX4 52 "CashAllocatorModel" "left" "[I", Cond.fieldLink RX4 68 "CashAllocatorModel" "chosen" "[I", Cond.fieldLink RX4 79 "CashAllocatorModel" "bills" "I", Cond.fieldLink RX4 19 "CashAllocatorModel" "days" "[I", Cond.fieldLink RX4 7 "CashAllocatorModel" "owners" "[I", Cond.methodLink RX4 116 yX4_choose, Cond.instanceMethod yX4_choose, Cond.selects RX4 yX4_choose yX4_choose, Cond.initialized RX4, Cond.code yX4_choose cX4_choose 12 (some .int), Cond.methodLink RX4 112 yX4_dueOf, Cond.instanceMethod yX4_dueOf, Cond.selects RX4 yX4_dueOf yX4_dueOf, Cond.code yX4_dueOf cX4_dueOf 3 (some .int), Cond.methodLink RX4 108 yX4_isBill, Cond.instanceMethod yX4_isBill, Cond.selects RX4 yX4_isBill yX4_isBill, Cond.code yX4_isBill cX4_isBill 2 (some .boolean), Cond.methodLink RX4 75 yX4_in, Cond.static yX4_in, Cond.code yX4_in cX4_in 3 (some .boolean), Cond.methodLink RX4 85 yX4_openNow, Cond.instanceMethod yX4_openNow]
def wsX4_payOthers_r2 : List Cond := [Cond.selects RX4 yX4_openNow yX4_openNow, Cond.code yX4_openNow cX4_openNow 2 (some .int), Cond.fieldLink RX4 13 "CashAllocatorModel" "amounts" "[I", Cond.fieldLink RX4 28 "CashAllocatorModel" "paidOf" "[I", Cond.fieldLink RX4 31 "CashAllocatorModel" "takenOf" "[I", Cond.fieldLink RX4 37 "CashAllocatorModel" "disputedOf" "[I", Cond.fieldLink RX4 43 "CashAllocatorModel" "writtenOf" "[I", Cond.methodLink RX4 97 yX4_dueNow, Cond.instanceMethod yX4_dueNow, Cond.selects RX4 yX4_dueNow yX4_dueNow, Cond.code yX4_dueNow cX4_dueNow 2 (some .int), Cond.methodLink RX4 94 yX4_discount, Cond.instanceMethod yX4_discount, Cond.selects RX4 yX4_discount yX4_discount, Cond.code yX4_discount cX4_discount 3 (some .int), Cond.fieldLink RX4 89 "CashAllocatorModel" "day" "I", Cond.fieldLink RX4 25 "CashAllocatorModel" "spans" "[I", Cond.fieldLink RX4 22 "CashAllocatorModel" "rates" "[I", Cond.constantLong RX4 92 (10000), Cond.methodLink RX4 100 yX4_pay, Cond.instanceMethod yX4_pay, Cond.selects RX4 yX4_pay yX4_pay, Cond.code yX4_pay cX4_pay 7 (some .boolean), Cond.fieldLink RX4 34 "CashAllocatorModel" "takers" "[I"]
def wsX4_payOthers_r3 : List Cond := [Cond.fieldLink RX4 62 "CashAllocatorModel" "paidBy" "[I", Cond.fieldLink RX4 65 "CashAllocatorModel" "hasPaid" "[Z"]
def wsX4_payOthers : List Cond := .code yX4_payOthers cX4_payOthers 11 none :: ((wsX4_payOthers_r1 ++ (wsX4_payOthers_r2 ++ wsX4_payOthers_r3)) ++ wsX40)
def wsX4_bill : List Cond := .code yX4_bill cX4_bill 7 (some .int) :: ([.constant RX4 120 (1000000), .fieldLink RX4 79 "CashAllocatorModel" "bills" "I", .fieldLink RX4 7 "CashAllocatorModel" "owners" "[I", .fieldLink RX4 13 "CashAllocatorModel" "amounts" "[I", .fieldLink RX4 16 "CashAllocatorModel" "references" "[I", .fieldLink RX4 19 "CashAllocatorModel" "days" "[I", .fieldLink RX4 89 "CashAllocatorModel" "day" "I", .fieldLink RX4 22 "CashAllocatorModel" "rates" "[I", .fieldLink RX4 25 "CashAllocatorModel" "spans" "[I", .fieldLink RX4 34 "CashAllocatorModel" "takers" "[I", .fieldLink RX4 40 "CashAllocatorModel" "raisers" "[I", .methodLink RX4 75 yX4_in, .static yX4_in, .initialized RX4, .code yX4_in cX4_in 3 (some .boolean), .methodLink RX4 121 yX4_isCustomer, .static yX4_isCustomer, .code yX4_isCustomer cX4_isCustomer 1 (some .boolean), .methodLink RX4 124 yX4_refused, .instanceMethod yX4_refused, .selects RX4 yX4_refused yX4_refused, .code yX4_refused cX4_refused 2 (some .boolean), .fieldLink RX4 71 "CashAllocatorModel" "refusal" "I"] ++ wsX40)
def wsX4_receive_r1 : List Cond := [Cond.constant RX4 120 (1000000), Cond.fieldLink RX4 82 "CashAllocatorModel" "receipts" "I", Cond.fieldLink RX4 46 "CashAllocatorModel" "sums" "[I", Cond.fieldLink RX4 49 "CashAllocatorModel" "payers" "[I", Cond.fieldLink RX4 52 "CashAllocatorModel" "left" "[I", Cond.methodLink RX4 75 yX4_in, Cond.static yX4_in, Cond.initialized RX4, Cond.code yX4_in cX4_in 3 (some .boolean), Cond.methodLink RX4 121 yX4_isCustomer, Cond.static yX4_isCustomer, Cond.code yX4_isCustomer cX4_isCustomer 1 (some .boolean), Cond.methodLink RX4 124 yX4_refused, Cond.instanceMethod yX4_refused, Cond.selects RX4 yX4_refused yX4_refused, Cond.code yX4_refused cX4_refused 2 (some .boolean), Cond.fieldLink RX4 71 "CashAllocatorModel" "refusal" "I", Cond.methodLink RX4 127 yX4_payNamed, Cond.instanceMethod yX4_payNamed, Cond.selects RX4 yX4_payNamed yX4_payNamed, Cond.code yX4_payNamed cX4_payNamed 5 none, Cond.fieldLink RX4 79 "CashAllocatorModel" "bills" "I", Cond.fieldLink RX4 16 "CashAllocatorModel" "references" "[I", Cond.fieldLink RX4 7 "CashAllocatorModel" "owners" "[I"]
def wsX4_receive_r2 : List Cond := [Cond.methodLink RX4 85 yX4_openNow, Cond.instanceMethod yX4_openNow, Cond.selects RX4 yX4_openNow yX4_openNow, Cond.code yX4_openNow cX4_openNow 2 (some .int), Cond.fieldLink RX4 13 "CashAllocatorModel" "amounts" "[I", Cond.fieldLink RX4 28 "CashAllocatorModel" "paidOf" "[I", Cond.fieldLink RX4 31 "CashAllocatorModel" "takenOf" "[I", Cond.fieldLink RX4 37 "CashAllocatorModel" "disputedOf" "[I", Cond.fieldLink RX4 43 "CashAllocatorModel" "writtenOf" "[I", Cond.methodLink RX4 100 yX4_pay, Cond.instanceMethod yX4_pay, Cond.selects RX4 yX4_pay yX4_pay, Cond.code yX4_pay cX4_pay 7 (some .boolean), Cond.fieldLink RX4 34 "CashAllocatorModel" "takers" "[I", Cond.fieldLink RX4 62 "CashAllocatorModel" "paidBy" "[I", Cond.fieldLink RX4 65 "CashAllocatorModel" "hasPaid" "[Z", Cond.methodLink RX4 97 yX4_dueNow, Cond.instanceMethod yX4_dueNow, Cond.selects RX4 yX4_dueNow yX4_dueNow, Cond.code yX4_dueNow cX4_dueNow 2 (some .int), Cond.methodLink RX4 94 yX4_discount, Cond.instanceMethod yX4_discount, Cond.selects RX4 yX4_discount yX4_discount, Cond.code yX4_discount cX4_discount 3 (some .int)]
def wsX4_receive_r3 : List Cond := [Cond.fieldLink RX4 89 "CashAllocatorModel" "day" "I", Cond.fieldLink RX4 19 "CashAllocatorModel" "days" "[I", Cond.fieldLink RX4 25 "CashAllocatorModel" "spans" "[I", Cond.fieldLink RX4 22 "CashAllocatorModel" "rates" "[I", Cond.constantLong RX4 92 (10000), Cond.methodLink RX4 104 yX4_dispute, Cond.instanceMethod yX4_dispute, Cond.selects RX4 yX4_dispute yX4_dispute, Cond.code yX4_dispute cX4_dispute 3 none, Cond.fieldLink RX4 40 "CashAllocatorModel" "raisers" "[I", Cond.methodLink RX4 130 yX4_payOthers, Cond.instanceMethod yX4_payOthers, Cond.selects RX4 yX4_payOthers yX4_payOthers, Cond.code yX4_payOthers cX4_payOthers 11 none, Cond.fieldLink RX4 68 "CashAllocatorModel" "chosen" "[I", Cond.methodLink RX4 116 yX4_choose, Cond.instanceMethod yX4_choose, Cond.selects RX4 yX4_choose yX4_choose, Cond.code yX4_choose cX4_choose 12 (some .int), Cond.methodLink RX4 112 yX4_dueOf, Cond.instanceMethod yX4_dueOf, Cond.selects RX4 yX4_dueOf yX4_dueOf, Cond.code yX4_dueOf cX4_dueOf 3 (some .int), Cond.methodLink RX4 108 yX4_isBill]
def wsX4_receive_r4 : List Cond := [Cond.instanceMethod yX4_isBill, Cond.selects RX4 yX4_isBill yX4_isBill, Cond.code yX4_isBill cX4_isBill 2 (some .boolean)]
def wsX4_receive : List Cond := .code yX4_receive cX4_receive 6 (some .int) :: ((wsX4_receive_r1 ++ (wsX4_receive_r2 ++ (wsX4_receive_r3 ++ wsX4_receive_r4))) ++ wsX40)
def wsX4_assign_r1 : List Cond := [Cond.fieldLink RX4 49 "CashAllocatorModel" "payers" "[I", Cond.fieldLink RX4 58 "CashAllocatorModel" "isBounced" "[Z", Cond.fieldLink RX4 52 "CashAllocatorModel" "left" "[I", Cond.methodLink RX4 134 yX4_isReceipt, Cond.instanceMethod yX4_isReceipt, Cond.selects RX4 yX4_isReceipt yX4_isReceipt, Cond.initialized RX4, Cond.code yX4_isReceipt cX4_isReceipt 2 (some .boolean), Cond.fieldLink RX4 82 "CashAllocatorModel" "receipts" "I", Cond.methodLink RX4 75 yX4_in, Cond.static yX4_in, Cond.code yX4_in cX4_in 3 (some .boolean), Cond.methodLink RX4 121 yX4_isCustomer, Cond.static yX4_isCustomer, Cond.code yX4_isCustomer cX4_isCustomer 1 (some .boolean), Cond.methodLink RX4 124 yX4_refused, Cond.instanceMethod yX4_refused, Cond.selects RX4 yX4_refused yX4_refused, Cond.code yX4_refused cX4_refused 2 (some .boolean), Cond.fieldLink RX4 71 "CashAllocatorModel" "refusal" "I", Cond.methodLink RX4 130 yX4_payOthers, Cond.instanceMethod yX4_payOthers, Cond.selects RX4 yX4_payOthers yX4_payOthers, Cond.code yX4_payOthers cX4_payOthers 11 none]
def wsX4_assign_r2 : List Cond := [Cond.fieldLink RX4 68 "CashAllocatorModel" "chosen" "[I", Cond.fieldLink RX4 79 "CashAllocatorModel" "bills" "I", Cond.fieldLink RX4 19 "CashAllocatorModel" "days" "[I", Cond.fieldLink RX4 7 "CashAllocatorModel" "owners" "[I", Cond.methodLink RX4 116 yX4_choose, Cond.instanceMethod yX4_choose, Cond.selects RX4 yX4_choose yX4_choose, Cond.code yX4_choose cX4_choose 12 (some .int), Cond.methodLink RX4 112 yX4_dueOf, Cond.instanceMethod yX4_dueOf, Cond.selects RX4 yX4_dueOf yX4_dueOf, Cond.code yX4_dueOf cX4_dueOf 3 (some .int), Cond.methodLink RX4 108 yX4_isBill, Cond.instanceMethod yX4_isBill, Cond.selects RX4 yX4_isBill yX4_isBill, Cond.code yX4_isBill cX4_isBill 2 (some .boolean), Cond.methodLink RX4 85 yX4_openNow, Cond.instanceMethod yX4_openNow, Cond.selects RX4 yX4_openNow yX4_openNow, Cond.code yX4_openNow cX4_openNow 2 (some .int), Cond.fieldLink RX4 13 "CashAllocatorModel" "amounts" "[I", Cond.fieldLink RX4 28 "CashAllocatorModel" "paidOf" "[I", Cond.fieldLink RX4 31 "CashAllocatorModel" "takenOf" "[I", Cond.fieldLink RX4 37 "CashAllocatorModel" "disputedOf" "[I"]
def wsX4_assign_r3 : List Cond := [Cond.fieldLink RX4 43 "CashAllocatorModel" "writtenOf" "[I", Cond.methodLink RX4 97 yX4_dueNow, Cond.instanceMethod yX4_dueNow, Cond.selects RX4 yX4_dueNow yX4_dueNow, Cond.code yX4_dueNow cX4_dueNow 2 (some .int), Cond.methodLink RX4 94 yX4_discount, Cond.instanceMethod yX4_discount, Cond.selects RX4 yX4_discount yX4_discount, Cond.code yX4_discount cX4_discount 3 (some .int), Cond.fieldLink RX4 89 "CashAllocatorModel" "day" "I", Cond.fieldLink RX4 25 "CashAllocatorModel" "spans" "[I", Cond.fieldLink RX4 22 "CashAllocatorModel" "rates" "[I", Cond.constantLong RX4 92 (10000), Cond.methodLink RX4 100 yX4_pay, Cond.instanceMethod yX4_pay, Cond.selects RX4 yX4_pay yX4_pay, Cond.code yX4_pay cX4_pay 7 (some .boolean), Cond.fieldLink RX4 34 "CashAllocatorModel" "takers" "[I", Cond.fieldLink RX4 62 "CashAllocatorModel" "paidBy" "[I", Cond.fieldLink RX4 65 "CashAllocatorModel" "hasPaid" "[Z"]
def wsX4_assign : List Cond := .code yX4_assign cX4_assign 4 (some .int) :: ((wsX4_assign_r1 ++ (wsX4_assign_r2 ++ wsX4_assign_r3)) ++ wsX40)
def wsX4_apply_r1 : List Cond := [Cond.fieldLink RX4 49 "CashAllocatorModel" "payers" "[I", Cond.fieldLink RX4 58 "CashAllocatorModel" "isBounced" "[Z", Cond.fieldLink RX4 52 "CashAllocatorModel" "left" "[I", Cond.methodLink RX4 134 yX4_isReceipt, Cond.instanceMethod yX4_isReceipt, Cond.selects RX4 yX4_isReceipt yX4_isReceipt, Cond.initialized RX4, Cond.code yX4_isReceipt cX4_isReceipt 2 (some .boolean), Cond.fieldLink RX4 82 "CashAllocatorModel" "receipts" "I", Cond.methodLink RX4 75 yX4_in, Cond.static yX4_in, Cond.code yX4_in cX4_in 3 (some .boolean), Cond.methodLink RX4 124 yX4_refused, Cond.instanceMethod yX4_refused, Cond.selects RX4 yX4_refused yX4_refused, Cond.code yX4_refused cX4_refused 2 (some .boolean), Cond.fieldLink RX4 71 "CashAllocatorModel" "refusal" "I", Cond.methodLink RX4 130 yX4_payOthers, Cond.instanceMethod yX4_payOthers, Cond.selects RX4 yX4_payOthers yX4_payOthers, Cond.code yX4_payOthers cX4_payOthers 11 none, Cond.fieldLink RX4 68 "CashAllocatorModel" "chosen" "[I", Cond.fieldLink RX4 79 "CashAllocatorModel" "bills" "I", Cond.fieldLink RX4 19 "CashAllocatorModel" "days" "[I"]
def wsX4_apply_r2 : List Cond := [Cond.fieldLink RX4 7 "CashAllocatorModel" "owners" "[I", Cond.methodLink RX4 116 yX4_choose, Cond.instanceMethod yX4_choose, Cond.selects RX4 yX4_choose yX4_choose, Cond.code yX4_choose cX4_choose 12 (some .int), Cond.methodLink RX4 112 yX4_dueOf, Cond.instanceMethod yX4_dueOf, Cond.selects RX4 yX4_dueOf yX4_dueOf, Cond.code yX4_dueOf cX4_dueOf 3 (some .int), Cond.methodLink RX4 108 yX4_isBill, Cond.instanceMethod yX4_isBill, Cond.selects RX4 yX4_isBill yX4_isBill, Cond.code yX4_isBill cX4_isBill 2 (some .boolean), Cond.methodLink RX4 85 yX4_openNow, Cond.instanceMethod yX4_openNow, Cond.selects RX4 yX4_openNow yX4_openNow, Cond.code yX4_openNow cX4_openNow 2 (some .int), Cond.fieldLink RX4 13 "CashAllocatorModel" "amounts" "[I", Cond.fieldLink RX4 28 "CashAllocatorModel" "paidOf" "[I", Cond.fieldLink RX4 31 "CashAllocatorModel" "takenOf" "[I", Cond.fieldLink RX4 37 "CashAllocatorModel" "disputedOf" "[I", Cond.fieldLink RX4 43 "CashAllocatorModel" "writtenOf" "[I", Cond.methodLink RX4 97 yX4_dueNow, Cond.instanceMethod yX4_dueNow]
def wsX4_apply_r3 : List Cond := [Cond.selects RX4 yX4_dueNow yX4_dueNow, Cond.code yX4_dueNow cX4_dueNow 2 (some .int), Cond.methodLink RX4 94 yX4_discount, Cond.instanceMethod yX4_discount, Cond.selects RX4 yX4_discount yX4_discount, Cond.code yX4_discount cX4_discount 3 (some .int), Cond.fieldLink RX4 89 "CashAllocatorModel" "day" "I", Cond.fieldLink RX4 25 "CashAllocatorModel" "spans" "[I", Cond.fieldLink RX4 22 "CashAllocatorModel" "rates" "[I", Cond.constantLong RX4 92 (10000), Cond.methodLink RX4 100 yX4_pay, Cond.instanceMethod yX4_pay, Cond.selects RX4 yX4_pay yX4_pay, Cond.code yX4_pay cX4_pay 7 (some .boolean), Cond.fieldLink RX4 34 "CashAllocatorModel" "takers" "[I", Cond.fieldLink RX4 62 "CashAllocatorModel" "paidBy" "[I", Cond.fieldLink RX4 65 "CashAllocatorModel" "hasPaid" "[Z"]
def wsX4_apply : List Cond := .code yX4_apply cX4_apply 2 (some .int) :: ((wsX4_apply_r1 ++ (wsX4_apply_r2 ++ wsX4_apply_r3)) ++ wsX40)
def wsX4_payBack : List Cond := .code yX4_payBack cX4_payBack 3 (some .int) :: ([.fieldLink RX4 58 "CashAllocatorModel" "isBounced" "[Z", .fieldLink RX4 52 "CashAllocatorModel" "left" "[I", .fieldLink RX4 55 "CashAllocatorModel" "backs" "[I", .methodLink RX4 134 yX4_isReceipt, .instanceMethod yX4_isReceipt, .selects RX4 yX4_isReceipt yX4_isReceipt, .initialized RX4, .code yX4_isReceipt cX4_isReceipt 2 (some .boolean), .fieldLink RX4 82 "CashAllocatorModel" "receipts" "I", .methodLink RX4 75 yX4_in, .static yX4_in, .code yX4_in cX4_in 3 (some .boolean), .methodLink RX4 124 yX4_refused, .instanceMethod yX4_refused, .selects RX4 yX4_refused yX4_refused, .code yX4_refused cX4_refused 2 (some .boolean), .fieldLink RX4 71 "CashAllocatorModel" "refusal" "I"] ++ wsX40)
def wsX4_bounce_r1 : List Cond := [Cond.fieldLink RX4 58 "CashAllocatorModel" "isBounced" "[Z", Cond.fieldLink RX4 55 "CashAllocatorModel" "backs" "[I", Cond.fieldLink RX4 79 "CashAllocatorModel" "bills" "I", Cond.fieldLink RX4 65 "CashAllocatorModel" "hasPaid" "[Z", Cond.fieldLink RX4 28 "CashAllocatorModel" "paidOf" "[I", Cond.fieldLink RX4 62 "CashAllocatorModel" "paidBy" "[I", Cond.fieldLink RX4 34 "CashAllocatorModel" "takers" "[I", Cond.fieldLink RX4 31 "CashAllocatorModel" "takenOf" "[I", Cond.fieldLink RX4 40 "CashAllocatorModel" "raisers" "[I", Cond.fieldLink RX4 37 "CashAllocatorModel" "disputedOf" "[I", Cond.fieldLink RX4 52 "CashAllocatorModel" "left" "[I", Cond.methodLink RX4 134 yX4_isReceipt, Cond.instanceMethod yX4_isReceipt, Cond.selects RX4 yX4_isReceipt yX4_isReceipt, Cond.initialized RX4, Cond.code yX4_isReceipt cX4_isReceipt 2 (some .boolean), Cond.fieldLink RX4 82 "CashAllocatorModel" "receipts" "I", Cond.methodLink RX4 75 yX4_in, Cond.static yX4_in, Cond.code yX4_in cX4_in 3 (some .boolean), Cond.methodLink RX4 124 yX4_refused, Cond.instanceMethod yX4_refused, Cond.selects RX4 yX4_refused yX4_refused, Cond.code yX4_refused cX4_refused 2 (some .boolean)]
def wsX4_bounce_r2 : List Cond := [Cond.fieldLink RX4 71 "CashAllocatorModel" "refusal" "I"]
def wsX4_bounce : List Cond := .code yX4_bounce cX4_bounce 5 (some .int) :: ((wsX4_bounce_r1 ++ wsX4_bounce_r2) ++ wsX40)
def wsX4_settle : List Cond := .code yX4_settle cX4_settle 4 (some .int) :: ([.fieldLink RX4 37 "CashAllocatorModel" "disputedOf" "[I", .fieldLink RX4 43 "CashAllocatorModel" "writtenOf" "[I", .fieldLink RX4 40 "CashAllocatorModel" "raisers" "[I", .methodLink RX4 108 yX4_isBill, .instanceMethod yX4_isBill, .selects RX4 yX4_isBill yX4_isBill, .initialized RX4, .code yX4_isBill cX4_isBill 2 (some .boolean), .fieldLink RX4 79 "CashAllocatorModel" "bills" "I", .methodLink RX4 75 yX4_in, .static yX4_in, .code yX4_in cX4_in 3 (some .boolean), .methodLink RX4 124 yX4_refused, .instanceMethod yX4_refused, .selects RX4 yX4_refused yX4_refused, .code yX4_refused cX4_refused 2 (some .boolean), .fieldLink RX4 71 "CashAllocatorModel" "refusal" "I"] ++ wsX40)
def wsX4_advance : List Cond := .code yX4_advance cX4_advance 2 (some .int) :: ([.fieldLink RX4 89 "CashAllocatorModel" "day" "I", .methodLink RX4 75 yX4_in, .static yX4_in, .initialized RX4, .code yX4_in cX4_in 3 (some .boolean), .methodLink RX4 124 yX4_refused, .instanceMethod yX4_refused, .selects RX4 yX4_refused yX4_refused, .code yX4_refused cX4_refused 2 (some .boolean), .fieldLink RX4 71 "CashAllocatorModel" "refusal" "I"] ++ wsX40)
def wsX4_bills : List Cond := .code yX4_bills cX4_bills 1 (some .int) :: ([.fieldLink RX4 79 "CashAllocatorModel" "bills" "I", .methodLink RX4 137 yX4_fine, .instanceMethod yX4_fine, .selects RX4 yX4_fine yX4_fine, .initialized RX4, .code yX4_fine cX4_fine 2 (some .int), .fieldLink RX4 71 "CashAllocatorModel" "refusal" "I"] ++ wsX40)
def wsX4_noBill : List Cond := .code yX4_noBill cX4_noBill 2 (some .boolean) :: ([.methodLink RX4 108 yX4_isBill, .instanceMethod yX4_isBill, .selects RX4 yX4_isBill yX4_isBill, .initialized RX4, .code yX4_isBill cX4_isBill 2 (some .boolean), .fieldLink RX4 79 "CashAllocatorModel" "bills" "I", .methodLink RX4 75 yX4_in, .static yX4_in, .code yX4_in cX4_in 3 (some .boolean), .methodLink RX4 124 yX4_refused, .instanceMethod yX4_refused, .selects RX4 yX4_refused yX4_refused, .code yX4_refused cX4_refused 2 (some .boolean), .fieldLink RX4 71 "CashAllocatorModel" "refusal" "I"] ++ wsX40)
def wsX4_open_r1 : List Cond := [Cond.methodLink RX4 140 yX4_noBill, Cond.instanceMethod yX4_noBill, Cond.selects RX4 yX4_noBill yX4_noBill, Cond.initialized RX4, Cond.code yX4_noBill cX4_noBill 2 (some .boolean), Cond.methodLink RX4 108 yX4_isBill, Cond.instanceMethod yX4_isBill, Cond.selects RX4 yX4_isBill yX4_isBill, Cond.code yX4_isBill cX4_isBill 2 (some .boolean), Cond.fieldLink RX4 79 "CashAllocatorModel" "bills" "I", Cond.methodLink RX4 75 yX4_in, Cond.static yX4_in, Cond.code yX4_in cX4_in 3 (some .boolean), Cond.methodLink RX4 124 yX4_refused, Cond.instanceMethod yX4_refused, Cond.selects RX4 yX4_refused yX4_refused, Cond.code yX4_refused cX4_refused 2 (some .boolean), Cond.fieldLink RX4 71 "CashAllocatorModel" "refusal" "I", Cond.methodLink RX4 85 yX4_openNow, Cond.instanceMethod yX4_openNow, Cond.selects RX4 yX4_openNow yX4_openNow, Cond.code yX4_openNow cX4_openNow 2 (some .int), Cond.fieldLink RX4 13 "CashAllocatorModel" "amounts" "[I", Cond.fieldLink RX4 28 "CashAllocatorModel" "paidOf" "[I"]
def wsX4_open_r2 : List Cond := [Cond.fieldLink RX4 31 "CashAllocatorModel" "takenOf" "[I", Cond.fieldLink RX4 37 "CashAllocatorModel" "disputedOf" "[I", Cond.fieldLink RX4 43 "CashAllocatorModel" "writtenOf" "[I"]
def wsX4_open : List Cond := .code yX4_open cX4_open 2 (some .int) :: ((wsX4_open_r1 ++ wsX4_open_r2) ++ wsX40)
def wsX4_due_r1 : List Cond := [Cond.methodLink RX4 140 yX4_noBill, Cond.instanceMethod yX4_noBill, Cond.selects RX4 yX4_noBill yX4_noBill, Cond.initialized RX4, Cond.code yX4_noBill cX4_noBill 2 (some .boolean), Cond.methodLink RX4 108 yX4_isBill, Cond.instanceMethod yX4_isBill, Cond.selects RX4 yX4_isBill yX4_isBill, Cond.code yX4_isBill cX4_isBill 2 (some .boolean), Cond.fieldLink RX4 79 "CashAllocatorModel" "bills" "I", Cond.methodLink RX4 75 yX4_in, Cond.static yX4_in, Cond.code yX4_in cX4_in 3 (some .boolean), Cond.methodLink RX4 124 yX4_refused, Cond.instanceMethod yX4_refused, Cond.selects RX4 yX4_refused yX4_refused, Cond.code yX4_refused cX4_refused 2 (some .boolean), Cond.fieldLink RX4 71 "CashAllocatorModel" "refusal" "I", Cond.methodLink RX4 97 yX4_dueNow, Cond.instanceMethod yX4_dueNow, Cond.selects RX4 yX4_dueNow yX4_dueNow, Cond.code yX4_dueNow cX4_dueNow 2 (some .int), Cond.methodLink RX4 85 yX4_openNow, Cond.instanceMethod yX4_openNow]
def wsX4_due_r2 : List Cond := [Cond.selects RX4 yX4_openNow yX4_openNow, Cond.code yX4_openNow cX4_openNow 2 (some .int), Cond.fieldLink RX4 13 "CashAllocatorModel" "amounts" "[I", Cond.fieldLink RX4 28 "CashAllocatorModel" "paidOf" "[I", Cond.fieldLink RX4 31 "CashAllocatorModel" "takenOf" "[I", Cond.fieldLink RX4 37 "CashAllocatorModel" "disputedOf" "[I", Cond.fieldLink RX4 43 "CashAllocatorModel" "writtenOf" "[I", Cond.methodLink RX4 94 yX4_discount, Cond.instanceMethod yX4_discount, Cond.selects RX4 yX4_discount yX4_discount, Cond.code yX4_discount cX4_discount 3 (some .int), Cond.fieldLink RX4 89 "CashAllocatorModel" "day" "I", Cond.fieldLink RX4 19 "CashAllocatorModel" "days" "[I", Cond.fieldLink RX4 25 "CashAllocatorModel" "spans" "[I", Cond.fieldLink RX4 22 "CashAllocatorModel" "rates" "[I", Cond.constantLong RX4 92 (10000)]
def wsX4_due : List Cond := .code yX4_due cX4_due 2 (some .int) :: ((wsX4_due_r1 ++ wsX4_due_r2) ++ wsX40)
def wsX4_paid : List Cond := .code yX4_paid cX4_paid 2 (some .int) :: ([.fieldLink RX4 28 "CashAllocatorModel" "paidOf" "[I", .methodLink RX4 140 yX4_noBill, .instanceMethod yX4_noBill, .selects RX4 yX4_noBill yX4_noBill, .initialized RX4, .code yX4_noBill cX4_noBill 2 (some .boolean), .methodLink RX4 108 yX4_isBill, .instanceMethod yX4_isBill, .selects RX4 yX4_isBill yX4_isBill, .code yX4_isBill cX4_isBill 2 (some .boolean), .fieldLink RX4 79 "CashAllocatorModel" "bills" "I", .methodLink RX4 75 yX4_in, .static yX4_in, .code yX4_in cX4_in 3 (some .boolean), .methodLink RX4 124 yX4_refused, .instanceMethod yX4_refused, .selects RX4 yX4_refused yX4_refused, .code yX4_refused cX4_refused 2 (some .boolean), .fieldLink RX4 71 "CashAllocatorModel" "refusal" "I"] ++ wsX40)
def wsX4_taken : List Cond := .code yX4_taken cX4_taken 2 (some .int) :: ([.fieldLink RX4 31 "CashAllocatorModel" "takenOf" "[I", .methodLink RX4 140 yX4_noBill, .instanceMethod yX4_noBill, .selects RX4 yX4_noBill yX4_noBill, .initialized RX4, .code yX4_noBill cX4_noBill 2 (some .boolean), .methodLink RX4 108 yX4_isBill, .instanceMethod yX4_isBill, .selects RX4 yX4_isBill yX4_isBill, .code yX4_isBill cX4_isBill 2 (some .boolean), .fieldLink RX4 79 "CashAllocatorModel" "bills" "I", .methodLink RX4 75 yX4_in, .static yX4_in, .code yX4_in cX4_in 3 (some .boolean), .methodLink RX4 124 yX4_refused, .instanceMethod yX4_refused, .selects RX4 yX4_refused yX4_refused, .code yX4_refused cX4_refused 2 (some .boolean), .fieldLink RX4 71 "CashAllocatorModel" "refusal" "I"] ++ wsX40)
def wsX4_disputed : List Cond := .code yX4_disputed cX4_disputed 2 (some .int) :: ([.fieldLink RX4 37 "CashAllocatorModel" "disputedOf" "[I", .methodLink RX4 140 yX4_noBill, .instanceMethod yX4_noBill, .selects RX4 yX4_noBill yX4_noBill, .initialized RX4, .code yX4_noBill cX4_noBill 2 (some .boolean), .methodLink RX4 108 yX4_isBill, .instanceMethod yX4_isBill, .selects RX4 yX4_isBill yX4_isBill, .code yX4_isBill cX4_isBill 2 (some .boolean), .fieldLink RX4 79 "CashAllocatorModel" "bills" "I", .methodLink RX4 75 yX4_in, .static yX4_in, .code yX4_in cX4_in 3 (some .boolean), .methodLink RX4 124 yX4_refused, .instanceMethod yX4_refused, .selects RX4 yX4_refused yX4_refused, .code yX4_refused cX4_refused 2 (some .boolean), .fieldLink RX4 71 "CashAllocatorModel" "refusal" "I"] ++ wsX40)
def wsX4_writtenOff : List Cond := .code yX4_writtenOff cX4_writtenOff 2 (some .int) :: ([.fieldLink RX4 43 "CashAllocatorModel" "writtenOf" "[I", .methodLink RX4 140 yX4_noBill, .instanceMethod yX4_noBill, .selects RX4 yX4_noBill yX4_noBill, .initialized RX4, .code yX4_noBill cX4_noBill 2 (some .boolean), .methodLink RX4 108 yX4_isBill, .instanceMethod yX4_isBill, .selects RX4 yX4_isBill yX4_isBill, .code yX4_isBill cX4_isBill 2 (some .boolean), .fieldLink RX4 79 "CashAllocatorModel" "bills" "I", .methodLink RX4 75 yX4_in, .static yX4_in, .code yX4_in cX4_in 3 (some .boolean), .methodLink RX4 124 yX4_refused, .instanceMethod yX4_refused, .selects RX4 yX4_refused yX4_refused, .code yX4_refused cX4_refused 2 (some .boolean), .fieldLink RX4 71 "CashAllocatorModel" "refusal" "I"] ++ wsX40)
def wsX4_openOf : List Cond := .code yX4_openOf cX4_openOf 4 (some .int) :: ([.fieldLink RX4 79 "CashAllocatorModel" "bills" "I", .fieldLink RX4 7 "CashAllocatorModel" "owners" "[I", .methodLink RX4 85 yX4_openNow, .instanceMethod yX4_openNow, .selects RX4 yX4_openNow yX4_openNow, .initialized RX4, .code yX4_openNow cX4_openNow 2 (some .int), .fieldLink RX4 13 "CashAllocatorModel" "amounts" "[I", .fieldLink RX4 28 "CashAllocatorModel" "paidOf" "[I", .fieldLink RX4 31 "CashAllocatorModel" "takenOf" "[I", .fieldLink RX4 37 "CashAllocatorModel" "disputedOf" "[I", .fieldLink RX4 43 "CashAllocatorModel" "writtenOf" "[I", .methodLink RX4 121 yX4_isCustomer, .static yX4_isCustomer, .code yX4_isCustomer cX4_isCustomer 1 (some .boolean), .methodLink RX4 75 yX4_in, .static yX4_in, .code yX4_in cX4_in 3 (some .boolean), .methodLink RX4 124 yX4_refused, .instanceMethod yX4_refused, .selects RX4 yX4_refused yX4_refused, .code yX4_refused cX4_refused 2 (some .boolean), .fieldLink RX4 71 "CashAllocatorModel" "refusal" "I"] ++ wsX40)
def wsX4_setFor_r1 : List Cond := [Cond.fieldLink RX4 68 "CashAllocatorModel" "chosen" "[I", Cond.methodLink RX4 121 yX4_isCustomer, Cond.static yX4_isCustomer, Cond.initialized RX4, Cond.code yX4_isCustomer cX4_isCustomer 1 (some .boolean), Cond.methodLink RX4 75 yX4_in, Cond.static yX4_in, Cond.code yX4_in cX4_in 3 (some .boolean), Cond.methodLink RX4 124 yX4_refused, Cond.instanceMethod yX4_refused, Cond.selects RX4 yX4_refused yX4_refused, Cond.code yX4_refused cX4_refused 2 (some .boolean), Cond.fieldLink RX4 71 "CashAllocatorModel" "refusal" "I", Cond.methodLink RX4 116 yX4_choose, Cond.instanceMethod yX4_choose, Cond.selects RX4 yX4_choose yX4_choose, Cond.code yX4_choose cX4_choose 12 (some .int), Cond.fieldLink RX4 79 "CashAllocatorModel" "bills" "I", Cond.methodLink RX4 112 yX4_dueOf, Cond.instanceMethod yX4_dueOf, Cond.selects RX4 yX4_dueOf yX4_dueOf, Cond.code yX4_dueOf cX4_dueOf 3 (some .int), Cond.fieldLink RX4 7 "CashAllocatorModel" "owners" "[I", Cond.methodLink RX4 108 yX4_isBill]
def wsX4_setFor_r2 : List Cond := [Cond.instanceMethod yX4_isBill, Cond.selects RX4 yX4_isBill yX4_isBill, Cond.code yX4_isBill cX4_isBill 2 (some .boolean), Cond.methodLink RX4 85 yX4_openNow, Cond.instanceMethod yX4_openNow, Cond.selects RX4 yX4_openNow yX4_openNow, Cond.code yX4_openNow cX4_openNow 2 (some .int), Cond.fieldLink RX4 13 "CashAllocatorModel" "amounts" "[I", Cond.fieldLink RX4 28 "CashAllocatorModel" "paidOf" "[I", Cond.fieldLink RX4 31 "CashAllocatorModel" "takenOf" "[I", Cond.fieldLink RX4 37 "CashAllocatorModel" "disputedOf" "[I", Cond.fieldLink RX4 43 "CashAllocatorModel" "writtenOf" "[I", Cond.methodLink RX4 97 yX4_dueNow, Cond.instanceMethod yX4_dueNow, Cond.selects RX4 yX4_dueNow yX4_dueNow, Cond.code yX4_dueNow cX4_dueNow 2 (some .int), Cond.methodLink RX4 94 yX4_discount, Cond.instanceMethod yX4_discount, Cond.selects RX4 yX4_discount yX4_discount, Cond.code yX4_discount cX4_discount 3 (some .int), Cond.fieldLink RX4 89 "CashAllocatorModel" "day" "I", Cond.fieldLink RX4 19 "CashAllocatorModel" "days" "[I", Cond.fieldLink RX4 25 "CashAllocatorModel" "spans" "[I", Cond.fieldLink RX4 22 "CashAllocatorModel" "rates" "[I"]
def wsX4_setFor_r3 : List Cond := [Cond.constantLong RX4 92 (10000)]
def wsX4_setFor : List Cond := .code yX4_setFor cX4_setFor 5 (some .int) :: ((wsX4_setFor_r1 ++ (wsX4_setFor_r2 ++ wsX4_setFor_r3)) ++ wsX40)
def wsX4_receipts : List Cond := .code yX4_receipts cX4_receipts 1 (some .int) :: ([.fieldLink RX4 82 "CashAllocatorModel" "receipts" "I", .methodLink RX4 137 yX4_fine, .instanceMethod yX4_fine, .selects RX4 yX4_fine yX4_fine, .initialized RX4, .code yX4_fine cX4_fine 2 (some .int), .fieldLink RX4 71 "CashAllocatorModel" "refusal" "I"] ++ wsX40)
def wsX4_noReceipt : List Cond := .code yX4_noReceipt cX4_noReceipt 2 (some .boolean) :: ([.methodLink RX4 134 yX4_isReceipt, .instanceMethod yX4_isReceipt, .selects RX4 yX4_isReceipt yX4_isReceipt, .initialized RX4, .code yX4_isReceipt cX4_isReceipt 2 (some .boolean), .fieldLink RX4 82 "CashAllocatorModel" "receipts" "I", .methodLink RX4 75 yX4_in, .static yX4_in, .code yX4_in cX4_in 3 (some .boolean), .methodLink RX4 124 yX4_refused, .instanceMethod yX4_refused, .selects RX4 yX4_refused yX4_refused, .code yX4_refused cX4_refused 2 (some .boolean), .fieldLink RX4 71 "CashAllocatorModel" "refusal" "I"] ++ wsX40)
def wsX4_customerOf : List Cond := .code yX4_customerOf cX4_customerOf 2 (some .int) :: ([.fieldLink RX4 49 "CashAllocatorModel" "payers" "[I", .methodLink RX4 143 yX4_noReceipt, .instanceMethod yX4_noReceipt, .selects RX4 yX4_noReceipt yX4_noReceipt, .initialized RX4, .code yX4_noReceipt cX4_noReceipt 2 (some .boolean), .methodLink RX4 134 yX4_isReceipt, .instanceMethod yX4_isReceipt, .selects RX4 yX4_isReceipt yX4_isReceipt, .code yX4_isReceipt cX4_isReceipt 2 (some .boolean), .fieldLink RX4 82 "CashAllocatorModel" "receipts" "I", .methodLink RX4 75 yX4_in, .static yX4_in, .code yX4_in cX4_in 3 (some .boolean), .methodLink RX4 124 yX4_refused, .instanceMethod yX4_refused, .selects RX4 yX4_refused yX4_refused, .code yX4_refused cX4_refused 2 (some .boolean), .fieldLink RX4 71 "CashAllocatorModel" "refusal" "I"] ++ wsX40)
def wsX4_appliedTo : List Cond := .code yX4_appliedTo cX4_appliedTo 3 (some .int) :: ([.fieldLink RX4 62 "CashAllocatorModel" "paidBy" "[I", .methodLink RX4 134 yX4_isReceipt, .instanceMethod yX4_isReceipt, .selects RX4 yX4_isReceipt yX4_isReceipt, .initialized RX4, .code yX4_isReceipt cX4_isReceipt 2 (some .boolean), .fieldLink RX4 82 "CashAllocatorModel" "receipts" "I", .methodLink RX4 75 yX4_in, .static yX4_in, .code yX4_in cX4_in 3 (some .boolean), .methodLink RX4 108 yX4_isBill, .instanceMethod yX4_isBill, .selects RX4 yX4_isBill yX4_isBill, .code yX4_isBill cX4_isBill 2 (some .boolean), .fieldLink RX4 79 "CashAllocatorModel" "bills" "I", .methodLink RX4 124 yX4_refused, .instanceMethod yX4_refused, .selects RX4 yX4_refused yX4_refused, .code yX4_refused cX4_refused 2 (some .boolean), .fieldLink RX4 71 "CashAllocatorModel" "refusal" "I"] ++ wsX40)
def wsX4_unapplied : List Cond := .code yX4_unapplied cX4_unapplied 2 (some .int) :: ([.fieldLink RX4 52 "CashAllocatorModel" "left" "[I", .methodLink RX4 143 yX4_noReceipt, .instanceMethod yX4_noReceipt, .selects RX4 yX4_noReceipt yX4_noReceipt, .initialized RX4, .code yX4_noReceipt cX4_noReceipt 2 (some .boolean), .methodLink RX4 134 yX4_isReceipt, .instanceMethod yX4_isReceipt, .selects RX4 yX4_isReceipt yX4_isReceipt, .code yX4_isReceipt cX4_isReceipt 2 (some .boolean), .fieldLink RX4 82 "CashAllocatorModel" "receipts" "I", .methodLink RX4 75 yX4_in, .static yX4_in, .code yX4_in cX4_in 3 (some .boolean), .methodLink RX4 124 yX4_refused, .instanceMethod yX4_refused, .selects RX4 yX4_refused yX4_refused, .code yX4_refused cX4_refused 2 (some .boolean), .fieldLink RX4 71 "CashAllocatorModel" "refusal" "I"] ++ wsX40)
def wsX4_hasBounced : List Cond := .code yX4_hasBounced cX4_hasBounced 2 (some .boolean) :: ([.fieldLink RX4 58 "CashAllocatorModel" "isBounced" "[Z", .methodLink RX4 143 yX4_noReceipt, .instanceMethod yX4_noReceipt, .selects RX4 yX4_noReceipt yX4_noReceipt, .initialized RX4, .code yX4_noReceipt cX4_noReceipt 2 (some .boolean), .methodLink RX4 134 yX4_isReceipt, .instanceMethod yX4_isReceipt, .selects RX4 yX4_isReceipt yX4_isReceipt, .code yX4_isReceipt cX4_isReceipt 2 (some .boolean), .fieldLink RX4 82 "CashAllocatorModel" "receipts" "I", .methodLink RX4 75 yX4_in, .static yX4_in, .code yX4_in cX4_in 3 (some .boolean), .methodLink RX4 124 yX4_refused, .instanceMethod yX4_refused, .selects RX4 yX4_refused yX4_refused, .code yX4_refused cX4_refused 2 (some .boolean), .fieldLink RX4 71 "CashAllocatorModel" "refusal" "I"] ++ wsX40)
def wsX4_day : List Cond := .code yX4_day cX4_day 1 (some .int) :: ([.fieldLink RX4 89 "CashAllocatorModel" "day" "I", .methodLink RX4 137 yX4_fine, .instanceMethod yX4_fine, .selects RX4 yX4_fine yX4_fine, .initialized RX4, .code yX4_fine cX4_fine 2 (some .int), .fieldLink RX4 71 "CashAllocatorModel" "refusal" "I"] ++ wsX40)
def wsX4_all : List Cond := .code yX4_all cX4_all 4 (some .int) :: ([.fieldLink RX4 82 "CashAllocatorModel" "receipts" "I"] ++ wsX40)
def wsX4_allBounced : List Cond := .code yX4_allBounced cX4_allBounced 3 (some .int) :: ([.fieldLink RX4 82 "CashAllocatorModel" "receipts" "I", .fieldLink RX4 58 "CashAllocatorModel" "isBounced" "[Z", .fieldLink RX4 46 "CashAllocatorModel" "sums" "[I"] ++ wsX40)
def wsX4_received : List Cond := .code yX4_received cX4_received 1 (some .int) :: ([.fieldLink RX4 46 "CashAllocatorModel" "sums" "[I", .methodLink RX4 146 yX4_all, .instanceMethod yX4_all, .selects RX4 yX4_all yX4_all, .initialized RX4, .code yX4_all cX4_all 4 (some .int), .fieldLink RX4 82 "CashAllocatorModel" "receipts" "I", .methodLink RX4 137 yX4_fine, .instanceMethod yX4_fine, .selects RX4 yX4_fine yX4_fine, .code yX4_fine cX4_fine 2 (some .int), .fieldLink RX4 71 "CashAllocatorModel" "refusal" "I"] ++ wsX40)
def wsX4_applied : List Cond := .code yX4_applied cX4_applied 1 (some .int) :: ([.fieldLink RX4 46 "CashAllocatorModel" "sums" "[I", .fieldLink RX4 52 "CashAllocatorModel" "left" "[I", .fieldLink RX4 55 "CashAllocatorModel" "backs" "[I", .methodLink RX4 146 yX4_all, .instanceMethod yX4_all, .selects RX4 yX4_all yX4_all, .initialized RX4, .code yX4_all cX4_all 4 (some .int), .fieldLink RX4 82 "CashAllocatorModel" "receipts" "I", .methodLink RX4 150 yX4_allBounced, .instanceMethod yX4_allBounced, .selects RX4 yX4_allBounced yX4_allBounced, .code yX4_allBounced cX4_allBounced 3 (some .int), .fieldLink RX4 58 "CashAllocatorModel" "isBounced" "[Z", .methodLink RX4 137 yX4_fine, .instanceMethod yX4_fine, .selects RX4 yX4_fine yX4_fine, .code yX4_fine cX4_fine 2 (some .int), .fieldLink RX4 71 "CashAllocatorModel" "refusal" "I"] ++ wsX40)
def wsX4_allUnapplied : List Cond := .code yX4_allUnapplied cX4_allUnapplied 1 (some .int) :: ([.fieldLink RX4 52 "CashAllocatorModel" "left" "[I", .methodLink RX4 146 yX4_all, .instanceMethod yX4_all, .selects RX4 yX4_all yX4_all, .initialized RX4, .code yX4_all cX4_all 4 (some .int), .fieldLink RX4 82 "CashAllocatorModel" "receipts" "I", .methodLink RX4 137 yX4_fine, .instanceMethod yX4_fine, .selects RX4 yX4_fine yX4_fine, .code yX4_fine cX4_fine 2 (some .int), .fieldLink RX4 71 "CashAllocatorModel" "refusal" "I"] ++ wsX40)
def wsX4_paidBack : List Cond := .code yX4_paidBack cX4_paidBack 1 (some .int) :: ([.fieldLink RX4 55 "CashAllocatorModel" "backs" "[I", .methodLink RX4 146 yX4_all, .instanceMethod yX4_all, .selects RX4 yX4_all yX4_all, .initialized RX4, .code yX4_all cX4_all 4 (some .int), .fieldLink RX4 82 "CashAllocatorModel" "receipts" "I", .methodLink RX4 137 yX4_fine, .instanceMethod yX4_fine, .selects RX4 yX4_fine yX4_fine, .code yX4_fine cX4_fine 2 (some .int), .fieldLink RX4 71 "CashAllocatorModel" "refusal" "I"] ++ wsX40)
def wsX4_bounced : List Cond := .code yX4_bounced cX4_bounced 1 (some .int) :: ([.methodLink RX4 150 yX4_allBounced, .instanceMethod yX4_allBounced, .selects RX4 yX4_allBounced yX4_allBounced, .initialized RX4, .code yX4_allBounced cX4_allBounced 3 (some .int), .fieldLink RX4 82 "CashAllocatorModel" "receipts" "I", .fieldLink RX4 58 "CashAllocatorModel" "isBounced" "[Z", .fieldLink RX4 46 "CashAllocatorModel" "sums" "[I", .methodLink RX4 137 yX4_fine, .instanceMethod yX4_fine, .selects RX4 yX4_fine yX4_fine, .code yX4_fine cX4_fine 2 (some .int), .fieldLink RX4 71 "CashAllocatorModel" "refusal" "I"] ++ wsX40)
def wsL_bill_r1 : List Cond := [Cond.classLink RL 13 "java/lang/IndexOutOfBoundsException", Cond.classLink RL 15 "java/lang/IllegalArgumentException", Cond.classLink RL 17 "java/lang/IllegalStateException", Cond.methodLink RL 7 yX3_bill, Cond.instanceMethod yX3_bill, Cond.selects RX3 yX3_bill yX3_bill, Cond.initialized RX3, Cond.code yX3_bill cX3_bill 6 (some .int), Cond.classLink RX3 46 "java/lang/IllegalStateException", Cond.initialized "java/lang/IllegalStateException", Cond.constant RX3 38 (1000000), Cond.fieldLink RX3 10 "CashAllocator" "billBook" "LCashAllocator$BillBook;", Cond.fieldLink RX3 43 "CashAllocator$BillBook" "count" "I", Cond.fieldLink RX3 30 "CashAllocator" "today" "I", Cond.methodLink RX3 34 yX3_requireCustomer, Cond.static yX3_requireCustomer, Cond.code yX3_requireCustomer cX3_requireCustomer 1 none, Cond.classLink RX3 145 "java/lang/IndexOutOfBoundsException", Cond.initialized "java/lang/IndexOutOfBoundsException", Cond.methodLink RX3 39 yX3_requireWithin, Cond.static yX3_requireWithin, Cond.code yX3_requireWithin cX3_requireWithin 3 none, Cond.classLink RX3 150 "java/lang/IllegalArgumentException", Cond.initialized "java/lang/IllegalArgumentException"]
def wsL_bill_r2 : List Cond := [Cond.methodLink RX3 53 yX3_discountOf, Cond.static yX3_discountOf, Cond.code yX3_discountOf cX3_discountOf 2 (some .int), Cond.constantLong RX3 225 (10000), Cond.methodLink RX3 57 yX0_add, Cond.instanceMethod yX0_add, Cond.selects RX0 yX0_add yX0_add, Cond.initialized RX0, Cond.code yX0_add cX0_add 7 (some .int), Cond.fieldLink RX0 45 "CashAllocator$BillBook" "count" "I", Cond.fieldLink RX0 9 "CashAllocator$BillBook" "customer" "[I", Cond.fieldLink RX0 15 "CashAllocator$BillBook" "amount" "[I", Cond.fieldLink RX0 18 "CashAllocator$BillBook" "reference" "[I", Cond.fieldLink RX0 21 "CashAllocator$BillBook" "discount" "[I", Cond.fieldLink RX0 24 "CashAllocator$BillBook" "lastDiscountDay" "[I", Cond.fieldLink RX0 33 "CashAllocator$BillBook" "takenBy" "[I", Cond.fieldLink RX0 39 "CashAllocator$BillBook" "disputedBy" "[I"]
def wsL_bill : List Cond := .codeWith yL_bill cL_bill 8 (some .int) [(0, 16, 19, 13), (0, 16, 23, 15), (0, 16, 27, 17)] :: ((wsL_bill_r1 ++ wsL_bill_r2) ++ wsX30 ++ wsX00 ++ (vx_atS RX3 50 "java/lang/IllegalStateException" ["java/lang/RuntimeException", "java/lang/Exception"]).filter goodWord ++ (vx_atS RX3 149 "java/lang/IndexOutOfBoundsException" ["java/lang/RuntimeException", "java/lang/Exception"]).filter goodWord ++ (vx_atS RX3 154 "java/lang/IllegalArgumentException" ["java/lang/RuntimeException", "java/lang/Exception"]).filter goodWord)
def wsL_receive_r1 : List Cond := [Cond.classLink RL 13 "java/lang/IndexOutOfBoundsException", Cond.classLink RL 15 "java/lang/IllegalArgumentException", Cond.classLink RL 17 "java/lang/IllegalStateException", Cond.methodLink RL 19 yX3_receive, Cond.instanceMethod yX3_receive, Cond.selects RX3 yX3_receive yX3_receive, Cond.initialized RX3, Cond.code yX3_receive cX3_receive 5 (some .int), Cond.classLink RX3 46 "java/lang/IllegalStateException", Cond.initialized "java/lang/IllegalStateException", Cond.constant RX3 38 (1000000), Cond.fieldLink RX3 19 "CashAllocator" "receiptBook" "LCashAllocator$ReceiptBook;", Cond.fieldLink RX3 61 "CashAllocator$ReceiptBook" "count" "I", Cond.methodLink RX3 34 yX3_requireCustomer, Cond.static yX3_requireCustomer, Cond.code yX3_requireCustomer cX3_requireCustomer 1 none, Cond.classLink RX3 145 "java/lang/IndexOutOfBoundsException", Cond.initialized "java/lang/IndexOutOfBoundsException", Cond.methodLink RX3 39 yX3_requireWithin, Cond.static yX3_requireWithin, Cond.code yX3_requireWithin cX3_requireWithin 3 none, Cond.classLink RX3 150 "java/lang/IllegalArgumentException", Cond.initialized "java/lang/IllegalArgumentException", Cond.methodLink RX3 64 yX2_add]
def wsL_receive_r2 : List Cond := [Cond.instanceMethod yX2_add, Cond.selects RX2 yX2_add yX2_add, Cond.initialized RX2, Cond.code yX2_add cX2_add 4 (some .int), Cond.fieldLink RX2 37 "CashAllocator$ReceiptBook" "count" "I", Cond.fieldLink RX2 9 "CashAllocator$ReceiptBook" "customer" "[I", Cond.fieldLink RX2 15 "CashAllocator$ReceiptBook" "amount" "[I", Cond.fieldLink RX2 21 "CashAllocator$ReceiptBook" "unapplied" "[I", Cond.methodLink RX3 66 yX3_payNamedBills, Cond.instanceMethod yX3_payNamedBills, Cond.selects RX3 yX3_payNamedBills yX3_payNamedBills, Cond.code yX3_payNamedBills cX3_payNamedBills 6 none, Cond.fieldLink RX3 79 "CashAllocator$ReceiptBook" "customer" "[I", Cond.fieldLink RX3 10 "CashAllocator" "billBook" "LCashAllocator$BillBook;", Cond.fieldLink RX3 43 "CashAllocator$BillBook" "count" "I", Cond.fieldLink RX3 85 "CashAllocator$ReceiptBook" "unapplied" "[I", Cond.fieldLink RX3 185 "CashAllocator$BillBook" "reference" "[I", Cond.methodLink RX3 179 yX0_customerNamedBy, Cond.instanceMethod yX0_customerNamedBy, Cond.selects RX0 yX0_customerNamedBy yX0_customerNamedBy, Cond.initialized RX0, Cond.code yX0_customerNamedBy cX0_customerNamedBy 3 (some .int), Cond.fieldLink RX0 45 "CashAllocator$BillBook" "count" "I", Cond.fieldLink RX0 18 "CashAllocator$BillBook" "reference" "[I"]
def wsL_receive_r3 : List Cond := [Cond.fieldLink RX0 9 "CashAllocator$BillBook" "customer" "[I", Cond.methodLink RX0 49 yX0_openSum, Cond.instanceMethod yX0_openSum, Cond.selects RX0 yX0_openSum yX0_openSum, Cond.code yX0_openSum cX0_openSum 2 (some .int), Cond.fieldLink RX0 15 "CashAllocator$BillBook" "amount" "[I", Cond.fieldLink RX0 27 "CashAllocator$BillBook" "paid" "[I", Cond.fieldLink RX0 30 "CashAllocator$BillBook" "taken" "[I", Cond.fieldLink RX0 36 "CashAllocator$BillBook" "disputed" "[I", Cond.fieldLink RX0 42 "CashAllocator$BillBook" "writtenOff" "[I", Cond.methodLink RX3 182 yX0_isOpenFor, Cond.instanceMethod yX0_isOpenFor, Cond.selects RX0 yX0_isOpenFor yX0_isOpenFor, Cond.code yX0_isOpenFor cX0_isOpenFor 3 (some .boolean), Cond.methodLink RX3 188 yX3_payBill, Cond.instanceMethod yX3_payBill, Cond.selects RX3 yX3_payBill yX3_payBill, Cond.code yX3_payBill cX3_payBill 7 (some .boolean), Cond.fieldLink RX3 30 "CashAllocator" "today" "I", Cond.fieldLink RX3 135 "CashAllocator$BillBook" "paid" "[I", Cond.methodLink RX3 132 yX0_dueOn, Cond.instanceMethod yX0_dueOn, Cond.selects RX0 yX0_dueOn yX0_dueOn, Cond.code yX0_dueOn cX0_dueOn 4 (some .int)]
def wsL_receive_r4 : List Cond := [Cond.fieldLink RX0 21 "CashAllocator$BillBook" "discount" "[I", Cond.methodLink RX0 53 yX0_allowsDiscount, Cond.instanceMethod yX0_allowsDiscount, Cond.selects RX0 yX0_allowsDiscount yX0_allowsDiscount, Cond.code yX0_allowsDiscount cX0_allowsDiscount 3 (some .boolean), Cond.fieldLink RX0 24 "CashAllocator$BillBook" "lastDiscountDay" "[I", Cond.methodLink RX3 200 yX0_takeDiscount, Cond.instanceMethod yX0_takeDiscount, Cond.selects RX0 yX0_takeDiscount yX0_takeDiscount, Cond.code yX0_takeDiscount cX0_takeDiscount 4 none, Cond.fieldLink RX0 33 "CashAllocator$BillBook" "takenBy" "[I", Cond.methodLink RX3 203 yX2_addPayment, Cond.instanceMethod yX2_addPayment, Cond.selects RX2 yX2_addPayment yX2_addPayment, Cond.code yX2_addPayment cX2_addPayment 4 none, Cond.fieldLink RX2 31 "CashAllocator$ReceiptBook" "sums" "[I", Cond.fieldLink RX2 34 "CashAllocator$ReceiptBook" "hasSum" "[Z", Cond.fieldLink RX2 18 "CashAllocator$ReceiptBook" "applied" "[I", Cond.methodLink RX2 41 yX2_cell, Cond.static yX2_cell, Cond.code yX2_cell cX2_cell 2 (some .int), Cond.methodLink RX3 191 yX0_disputeRest, Cond.instanceMethod yX0_disputeRest, Cond.selects RX0 yX0_disputeRest yX0_disputeRest]
def wsL_receive_r5 : List Cond := [Cond.code yX0_disputeRest cX0_disputeRest 3 none, Cond.fieldLink RX0 39 "CashAllocator$BillBook" "disputedBy" "[I", Cond.methodLink RX3 70 yX3_payOtherBills, Cond.instanceMethod yX3_payOtherBills, Cond.selects RX3 yX3_payOtherBills yX3_payOtherBills, Cond.code yX3_payOtherBills cX3_payOtherBills 2 none, Cond.methodLink RX3 194 yX3_payExactSet, Cond.instanceMethod yX3_payExactSet, Cond.selects RX3 yX3_payExactSet yX3_payExactSet, Cond.code yX3_payExactSet cX3_payExactSet 4 none, Cond.fieldLink RX3 26 "CashAllocator" "exactSet" "LCashAllocator$ExactSet;", Cond.fieldLink RX3 158 "CashAllocator$ExactSet" "chosen" "[I", Cond.methodLink RX3 155 yX3_chooseExactSet, Cond.instanceMethod yX3_chooseExactSet, Cond.selects RX3 yX3_chooseExactSet yX3_chooseExactSet, Cond.code yX3_chooseExactSet cX3_chooseExactSet 4 none, Cond.methodLink RX3 206 yX1_clear, Cond.instanceMethod yX1_clear, Cond.selects RX1 yX1_clear yX1_clear, Cond.initialized RX1, Cond.code yX1_clear cX1_clear 1 none, Cond.fieldLink RX1 21 "CashAllocator$ExactSet" "count" "I", Cond.fieldLink RX1 18 "CashAllocator$ExactSet" "chosen" "[I", Cond.methodLink RX3 209 yX1_offer]
def wsL_receive_r6 : List Cond := [Cond.instanceMethod yX1_offer, Cond.selects RX1 yX1_offer yX1_offer, Cond.code yX1_offer cX1_offer 3 none, Cond.fieldLink RX1 9 "CashAllocator$ExactSet" "offered" "[I", Cond.fieldLink RX1 15 "CashAllocator$ExactSet" "dues" "[I", Cond.methodLink RX3 212 yX1_choose, Cond.instanceMethod yX1_choose, Cond.selects RX1 yX1_choose yX1_choose, Cond.code yX1_choose cX1_choose 2 none, Cond.methodLink RX1 25 yX1_chooseOne, Cond.instanceMethod yX1_chooseOne, Cond.selects RX1 yX1_chooseOne yX1_chooseOne, Cond.code yX1_chooseOne cX1_chooseOne 3 (some .boolean), Cond.methodLink RX1 36 yX1_find, Cond.instanceMethod yX1_find, Cond.selects RX1 yX1_find yX1_find, Cond.code yX1_find cX1_find 4 (some .int), Cond.methodLink RX1 29 yX1_chooseTwo, Cond.instanceMethod yX1_chooseTwo, Cond.selects RX1 yX1_chooseTwo yX1_chooseTwo, Cond.code yX1_chooseTwo cX1_chooseTwo 4 (some .boolean), Cond.methodLink RX1 32 yX1_chooseThree, Cond.instanceMethod yX1_chooseThree, Cond.selects RX1 yX1_chooseThree yX1_chooseThree]
def wsL_receive_r7 : List Cond := [Cond.code yX1_chooseThree cX1_chooseThree 5 none, Cond.methodLink RX3 197 yX3_payOldestBills, Cond.instanceMethod yX3_payOldestBills, Cond.selects RX3 yX3_payOldestBills yX3_payOldestBills, Cond.code yX3_payOldestBills cX3_payOldestBills 4 none]
def wsL_receive : List Cond := .codeWith yL_receive cL_receive 6 (some .int) [(0, 12, 15, 13), (0, 12, 19, 15), (0, 12, 23, 17)] :: ((wsL_receive_r1 ++ (wsL_receive_r2 ++ (wsL_receive_r3 ++ (wsL_receive_r4 ++ (wsL_receive_r5 ++ (wsL_receive_r6 ++ wsL_receive_r7)))))) ++ wsX30 ++ wsX20 ++ wsX00 ++ wsX10 ++ (vx_atS RX3 50 "java/lang/IllegalStateException" ["java/lang/RuntimeException", "java/lang/Exception"]).filter goodWord ++ (vx_atS RX3 149 "java/lang/IndexOutOfBoundsException" ["java/lang/RuntimeException", "java/lang/Exception"]).filter goodWord ++ (vx_atS RX3 154 "java/lang/IllegalArgumentException" ["java/lang/RuntimeException", "java/lang/Exception"]).filter goodWord)
def wsL_assign_r1 : List Cond := [Cond.classLink RL 13 "java/lang/IndexOutOfBoundsException", Cond.classLink RL 17 "java/lang/IllegalStateException", Cond.methodLink RL 23 yX3_assign, Cond.instanceMethod yX3_assign, Cond.selects RX3 yX3_assign yX3_assign, Cond.initialized RX3, Cond.code yX3_assign cX3_assign 3 (some .int), Cond.classLink RX3 46 "java/lang/IllegalStateException", Cond.initialized "java/lang/IllegalStateException", Cond.fieldLink RX3 19 "CashAllocator" "receiptBook" "LCashAllocator$ReceiptBook;", Cond.fieldLink RX3 79 "CashAllocator$ReceiptBook" "customer" "[I", Cond.fieldLink RX3 85 "CashAllocator$ReceiptBook" "unapplied" "[I", Cond.methodLink RX3 73 yX3_requireReceipt, Cond.instanceMethod yX3_requireReceipt, Cond.selects RX3 yX3_requireReceipt yX3_requireReceipt, Cond.code yX3_requireReceipt cX3_requireReceipt 2 none, Cond.classLink RX3 145 "java/lang/IndexOutOfBoundsException", Cond.initialized "java/lang/IndexOutOfBoundsException", Cond.fieldLink RX3 61 "CashAllocator$ReceiptBook" "count" "I", Cond.methodLink RX3 34 yX3_requireCustomer, Cond.static yX3_requireCustomer, Cond.code yX3_requireCustomer cX3_requireCustomer 1 none, Cond.methodLink RX3 76 yX3_requireNotBounced, Cond.instanceMethod yX3_requireNotBounced]
def wsL_assign_r2 : List Cond := [Cond.selects RX3 yX3_requireNotBounced yX3_requireNotBounced, Cond.code yX3_requireNotBounced cX3_requireNotBounced 2 none, Cond.fieldLink RX3 161 "CashAllocator$ReceiptBook" "isBounced" "[Z", Cond.methodLink RX3 70 yX3_payOtherBills, Cond.instanceMethod yX3_payOtherBills, Cond.selects RX3 yX3_payOtherBills yX3_payOtherBills, Cond.code yX3_payOtherBills cX3_payOtherBills 2 none, Cond.methodLink RX3 194 yX3_payExactSet, Cond.instanceMethod yX3_payExactSet, Cond.selects RX3 yX3_payExactSet yX3_payExactSet, Cond.code yX3_payExactSet cX3_payExactSet 4 none, Cond.fieldLink RX3 26 "CashAllocator" "exactSet" "LCashAllocator$ExactSet;", Cond.fieldLink RX3 158 "CashAllocator$ExactSet" "chosen" "[I", Cond.fieldLink RX3 10 "CashAllocator" "billBook" "LCashAllocator$BillBook;", Cond.fieldLink RX3 43 "CashAllocator$BillBook" "count" "I", Cond.methodLink RX3 155 yX3_chooseExactSet, Cond.instanceMethod yX3_chooseExactSet, Cond.selects RX3 yX3_chooseExactSet yX3_chooseExactSet, Cond.code yX3_chooseExactSet cX3_chooseExactSet 4 none, Cond.fieldLink RX3 30 "CashAllocator" "today" "I", Cond.methodLink RX3 206 yX1_clear, Cond.instanceMethod yX1_clear, Cond.selects RX1 yX1_clear yX1_clear, Cond.initialized RX1]
def wsL_assign_r3 : List Cond := [Cond.code yX1_clear cX1_clear 1 none, Cond.fieldLink RX1 21 "CashAllocator$ExactSet" "count" "I", Cond.fieldLink RX1 18 "CashAllocator$ExactSet" "chosen" "[I", Cond.methodLink RX3 182 yX0_isOpenFor, Cond.instanceMethod yX0_isOpenFor, Cond.selects RX0 yX0_isOpenFor yX0_isOpenFor, Cond.initialized RX0, Cond.code yX0_isOpenFor cX0_isOpenFor 3 (some .boolean), Cond.fieldLink RX0 9 "CashAllocator$BillBook" "customer" "[I", Cond.methodLink RX0 49 yX0_openSum, Cond.instanceMethod yX0_openSum, Cond.selects RX0 yX0_openSum yX0_openSum, Cond.code yX0_openSum cX0_openSum 2 (some .int), Cond.fieldLink RX0 15 "CashAllocator$BillBook" "amount" "[I", Cond.fieldLink RX0 27 "CashAllocator$BillBook" "paid" "[I", Cond.fieldLink RX0 30 "CashAllocator$BillBook" "taken" "[I", Cond.fieldLink RX0 36 "CashAllocator$BillBook" "disputed" "[I", Cond.fieldLink RX0 42 "CashAllocator$BillBook" "writtenOff" "[I", Cond.methodLink RX3 132 yX0_dueOn, Cond.instanceMethod yX0_dueOn, Cond.selects RX0 yX0_dueOn yX0_dueOn, Cond.code yX0_dueOn cX0_dueOn 4 (some .int), Cond.fieldLink RX0 21 "CashAllocator$BillBook" "discount" "[I", Cond.methodLink RX0 53 yX0_allowsDiscount]
def wsL_assign_r4 : List Cond := [Cond.instanceMethod yX0_allowsDiscount, Cond.selects RX0 yX0_allowsDiscount yX0_allowsDiscount, Cond.code yX0_allowsDiscount cX0_allowsDiscount 3 (some .boolean), Cond.fieldLink RX0 24 "CashAllocator$BillBook" "lastDiscountDay" "[I", Cond.methodLink RX3 209 yX1_offer, Cond.instanceMethod yX1_offer, Cond.selects RX1 yX1_offer yX1_offer, Cond.code yX1_offer cX1_offer 3 none, Cond.fieldLink RX1 9 "CashAllocator$ExactSet" "offered" "[I", Cond.fieldLink RX1 15 "CashAllocator$ExactSet" "dues" "[I", Cond.methodLink RX3 212 yX1_choose, Cond.instanceMethod yX1_choose, Cond.selects RX1 yX1_choose yX1_choose, Cond.code yX1_choose cX1_choose 2 none, Cond.methodLink RX1 25 yX1_chooseOne, Cond.instanceMethod yX1_chooseOne, Cond.selects RX1 yX1_chooseOne yX1_chooseOne, Cond.code yX1_chooseOne cX1_chooseOne 3 (some .boolean), Cond.methodLink RX1 36 yX1_find, Cond.instanceMethod yX1_find, Cond.selects RX1 yX1_find yX1_find, Cond.code yX1_find cX1_find 4 (some .int), Cond.methodLink RX1 29 yX1_chooseTwo, Cond.instanceMethod yX1_chooseTwo]
def wsL_assign_r5 : List Cond := [Cond.selects RX1 yX1_chooseTwo yX1_chooseTwo, Cond.code yX1_chooseTwo cX1_chooseTwo 4 (some .boolean), Cond.methodLink RX1 32 yX1_chooseThree, Cond.instanceMethod yX1_chooseThree, Cond.selects RX1 yX1_chooseThree yX1_chooseThree, Cond.code yX1_chooseThree cX1_chooseThree 5 none, Cond.methodLink RX3 188 yX3_payBill, Cond.instanceMethod yX3_payBill, Cond.selects RX3 yX3_payBill yX3_payBill, Cond.code yX3_payBill cX3_payBill 7 (some .boolean), Cond.fieldLink RX3 135 "CashAllocator$BillBook" "paid" "[I", Cond.methodLink RX3 200 yX0_takeDiscount, Cond.instanceMethod yX0_takeDiscount, Cond.selects RX0 yX0_takeDiscount yX0_takeDiscount, Cond.code yX0_takeDiscount cX0_takeDiscount 4 none, Cond.fieldLink RX0 33 "CashAllocator$BillBook" "takenBy" "[I", Cond.methodLink RX3 203 yX2_addPayment, Cond.instanceMethod yX2_addPayment, Cond.selects RX2 yX2_addPayment yX2_addPayment, Cond.initialized RX2, Cond.code yX2_addPayment cX2_addPayment 4 none, Cond.fieldLink RX2 31 "CashAllocator$ReceiptBook" "sums" "[I", Cond.fieldLink RX2 34 "CashAllocator$ReceiptBook" "hasSum" "[Z", Cond.fieldLink RX2 18 "CashAllocator$ReceiptBook" "applied" "[I"]
def wsL_assign_r6 : List Cond := [Cond.fieldLink RX2 21 "CashAllocator$ReceiptBook" "unapplied" "[I", Cond.methodLink RX2 41 yX2_cell, Cond.static yX2_cell, Cond.code yX2_cell cX2_cell 2 (some .int), Cond.methodLink RX3 197 yX3_payOldestBills, Cond.instanceMethod yX3_payOldestBills, Cond.selects RX3 yX3_payOldestBills yX3_payOldestBills, Cond.code yX3_payOldestBills cX3_payOldestBills 4 none]
def wsL_assign : List Cond := .codeWith yL_assign cL_assign 5 (some .int) [(0, 10, 13, 13), (0, 10, 17, 17)] :: ((wsL_assign_r1 ++ (wsL_assign_r2 ++ (wsL_assign_r3 ++ (wsL_assign_r4 ++ (wsL_assign_r5 ++ wsL_assign_r6))))) ++ wsX30 ++ wsX20 ++ wsX10 ++ wsX00 ++ (vx_atS RX3 50 "java/lang/IllegalStateException" ["java/lang/RuntimeException", "java/lang/Exception"]).filter goodWord ++ (vx_atS RX3 149 "java/lang/IndexOutOfBoundsException" ["java/lang/RuntimeException", "java/lang/Exception"]).filter goodWord)
def wsL_apply_r1 : List Cond := [Cond.classLink RL 13 "java/lang/IndexOutOfBoundsException", Cond.classLink RL 17 "java/lang/IllegalStateException", Cond.methodLink RL 27 yX3_apply, Cond.instanceMethod yX3_apply, Cond.selects RX3 yX3_apply yX3_apply, Cond.initialized RX3, Cond.code yX3_apply cX3_apply 2 (some .int), Cond.classLink RX3 46 "java/lang/IllegalStateException", Cond.initialized "java/lang/IllegalStateException", Cond.fieldLink RX3 19 "CashAllocator" "receiptBook" "LCashAllocator$ReceiptBook;", Cond.fieldLink RX3 79 "CashAllocator$ReceiptBook" "customer" "[I", Cond.fieldLink RX3 85 "CashAllocator$ReceiptBook" "unapplied" "[I", Cond.methodLink RX3 73 yX3_requireReceipt, Cond.instanceMethod yX3_requireReceipt, Cond.selects RX3 yX3_requireReceipt yX3_requireReceipt, Cond.code yX3_requireReceipt cX3_requireReceipt 2 none, Cond.classLink RX3 145 "java/lang/IndexOutOfBoundsException", Cond.initialized "java/lang/IndexOutOfBoundsException", Cond.fieldLink RX3 61 "CashAllocator$ReceiptBook" "count" "I", Cond.methodLink RX3 76 yX3_requireNotBounced, Cond.instanceMethod yX3_requireNotBounced, Cond.selects RX3 yX3_requireNotBounced yX3_requireNotBounced, Cond.code yX3_requireNotBounced cX3_requireNotBounced 2 none, Cond.fieldLink RX3 161 "CashAllocator$ReceiptBook" "isBounced" "[Z"]
def wsL_apply_r2 : List Cond := [Cond.methodLink RX3 70 yX3_payOtherBills, Cond.instanceMethod yX3_payOtherBills, Cond.selects RX3 yX3_payOtherBills yX3_payOtherBills, Cond.code yX3_payOtherBills cX3_payOtherBills 2 none, Cond.methodLink RX3 194 yX3_payExactSet, Cond.instanceMethod yX3_payExactSet, Cond.selects RX3 yX3_payExactSet yX3_payExactSet, Cond.code yX3_payExactSet cX3_payExactSet 4 none, Cond.fieldLink RX3 26 "CashAllocator" "exactSet" "LCashAllocator$ExactSet;", Cond.fieldLink RX3 158 "CashAllocator$ExactSet" "chosen" "[I", Cond.fieldLink RX3 10 "CashAllocator" "billBook" "LCashAllocator$BillBook;", Cond.fieldLink RX3 43 "CashAllocator$BillBook" "count" "I", Cond.methodLink RX3 155 yX3_chooseExactSet, Cond.instanceMethod yX3_chooseExactSet, Cond.selects RX3 yX3_chooseExactSet yX3_chooseExactSet, Cond.code yX3_chooseExactSet cX3_chooseExactSet 4 none, Cond.fieldLink RX3 30 "CashAllocator" "today" "I", Cond.methodLink RX3 206 yX1_clear, Cond.instanceMethod yX1_clear, Cond.selects RX1 yX1_clear yX1_clear, Cond.initialized RX1, Cond.code yX1_clear cX1_clear 1 none, Cond.fieldLink RX1 21 "CashAllocator$ExactSet" "count" "I", Cond.fieldLink RX1 18 "CashAllocator$ExactSet" "chosen" "[I"]
def wsL_apply_r3 : List Cond := [Cond.methodLink RX3 182 yX0_isOpenFor, Cond.instanceMethod yX0_isOpenFor, Cond.selects RX0 yX0_isOpenFor yX0_isOpenFor, Cond.initialized RX0, Cond.code yX0_isOpenFor cX0_isOpenFor 3 (some .boolean), Cond.fieldLink RX0 9 "CashAllocator$BillBook" "customer" "[I", Cond.methodLink RX0 49 yX0_openSum, Cond.instanceMethod yX0_openSum, Cond.selects RX0 yX0_openSum yX0_openSum, Cond.code yX0_openSum cX0_openSum 2 (some .int), Cond.fieldLink RX0 15 "CashAllocator$BillBook" "amount" "[I", Cond.fieldLink RX0 27 "CashAllocator$BillBook" "paid" "[I", Cond.fieldLink RX0 30 "CashAllocator$BillBook" "taken" "[I", Cond.fieldLink RX0 36 "CashAllocator$BillBook" "disputed" "[I", Cond.fieldLink RX0 42 "CashAllocator$BillBook" "writtenOff" "[I", Cond.methodLink RX3 132 yX0_dueOn, Cond.instanceMethod yX0_dueOn, Cond.selects RX0 yX0_dueOn yX0_dueOn, Cond.code yX0_dueOn cX0_dueOn 4 (some .int), Cond.fieldLink RX0 21 "CashAllocator$BillBook" "discount" "[I", Cond.methodLink RX0 53 yX0_allowsDiscount, Cond.instanceMethod yX0_allowsDiscount, Cond.selects RX0 yX0_allowsDiscount yX0_allowsDiscount, Cond.code yX0_allowsDiscount cX0_allowsDiscount 3 (some .boolean)]
def wsL_apply_r4 : List Cond := [Cond.fieldLink RX0 24 "CashAllocator$BillBook" "lastDiscountDay" "[I", Cond.methodLink RX3 209 yX1_offer, Cond.instanceMethod yX1_offer, Cond.selects RX1 yX1_offer yX1_offer, Cond.code yX1_offer cX1_offer 3 none, Cond.fieldLink RX1 9 "CashAllocator$ExactSet" "offered" "[I", Cond.fieldLink RX1 15 "CashAllocator$ExactSet" "dues" "[I", Cond.methodLink RX3 212 yX1_choose, Cond.instanceMethod yX1_choose, Cond.selects RX1 yX1_choose yX1_choose, Cond.code yX1_choose cX1_choose 2 none, Cond.methodLink RX1 25 yX1_chooseOne, Cond.instanceMethod yX1_chooseOne, Cond.selects RX1 yX1_chooseOne yX1_chooseOne, Cond.code yX1_chooseOne cX1_chooseOne 3 (some .boolean), Cond.methodLink RX1 36 yX1_find, Cond.instanceMethod yX1_find, Cond.selects RX1 yX1_find yX1_find, Cond.code yX1_find cX1_find 4 (some .int), Cond.methodLink RX1 29 yX1_chooseTwo, Cond.instanceMethod yX1_chooseTwo, Cond.selects RX1 yX1_chooseTwo yX1_chooseTwo, Cond.code yX1_chooseTwo cX1_chooseTwo 4 (some .boolean), Cond.methodLink RX1 32 yX1_chooseThree]
def wsL_apply_r5 : List Cond := [Cond.instanceMethod yX1_chooseThree, Cond.selects RX1 yX1_chooseThree yX1_chooseThree, Cond.code yX1_chooseThree cX1_chooseThree 5 none, Cond.methodLink RX3 188 yX3_payBill, Cond.instanceMethod yX3_payBill, Cond.selects RX3 yX3_payBill yX3_payBill, Cond.code yX3_payBill cX3_payBill 7 (some .boolean), Cond.fieldLink RX3 135 "CashAllocator$BillBook" "paid" "[I", Cond.methodLink RX3 200 yX0_takeDiscount, Cond.instanceMethod yX0_takeDiscount, Cond.selects RX0 yX0_takeDiscount yX0_takeDiscount, Cond.code yX0_takeDiscount cX0_takeDiscount 4 none, Cond.fieldLink RX0 33 "CashAllocator$BillBook" "takenBy" "[I", Cond.methodLink RX3 203 yX2_addPayment, Cond.instanceMethod yX2_addPayment, Cond.selects RX2 yX2_addPayment yX2_addPayment, Cond.initialized RX2, Cond.code yX2_addPayment cX2_addPayment 4 none, Cond.fieldLink RX2 31 "CashAllocator$ReceiptBook" "sums" "[I", Cond.fieldLink RX2 34 "CashAllocator$ReceiptBook" "hasSum" "[Z", Cond.fieldLink RX2 18 "CashAllocator$ReceiptBook" "applied" "[I", Cond.fieldLink RX2 21 "CashAllocator$ReceiptBook" "unapplied" "[I", Cond.methodLink RX2 41 yX2_cell, Cond.static yX2_cell]
def wsL_apply_r6 : List Cond := [Cond.code yX2_cell cX2_cell 2 (some .int), Cond.methodLink RX3 197 yX3_payOldestBills, Cond.instanceMethod yX3_payOldestBills, Cond.selects RX3 yX3_payOldestBills yX3_payOldestBills, Cond.code yX3_payOldestBills cX3_payOldestBills 4 none]
def wsL_apply : List Cond := .codeWith yL_apply cL_apply 4 (some .int) [(0, 9, 12, 13), (0, 9, 15, 17)] :: ((wsL_apply_r1 ++ (wsL_apply_r2 ++ (wsL_apply_r3 ++ (wsL_apply_r4 ++ (wsL_apply_r5 ++ wsL_apply_r6))))) ++ wsX30 ++ wsX20 ++ wsX10 ++ wsX00 ++ (vx_atS RX3 50 "java/lang/IllegalStateException" ["java/lang/RuntimeException", "java/lang/Exception"]).filter goodWord ++ (vx_atS RX3 149 "java/lang/IndexOutOfBoundsException" ["java/lang/RuntimeException", "java/lang/Exception"]).filter goodWord)
def wsL_payBack_r1 : List Cond := [Cond.classLink RL 13 "java/lang/IndexOutOfBoundsException", Cond.classLink RL 17 "java/lang/IllegalStateException", Cond.methodLink RL 31 yX3_payBack, Cond.instanceMethod yX3_payBack, Cond.selects RX3 yX3_payBack yX3_payBack, Cond.initialized RX3, Cond.code yX3_payBack cX3_payBack 2 (some .int), Cond.classLink RX3 46 "java/lang/IllegalStateException", Cond.initialized "java/lang/IllegalStateException", Cond.fieldLink RX3 19 "CashAllocator" "receiptBook" "LCashAllocator$ReceiptBook;", Cond.fieldLink RX3 85 "CashAllocator$ReceiptBook" "unapplied" "[I", Cond.methodLink RX3 73 yX3_requireReceipt, Cond.instanceMethod yX3_requireReceipt, Cond.selects RX3 yX3_requireReceipt yX3_requireReceipt, Cond.code yX3_requireReceipt cX3_requireReceipt 2 none, Cond.classLink RX3 145 "java/lang/IndexOutOfBoundsException", Cond.initialized "java/lang/IndexOutOfBoundsException", Cond.fieldLink RX3 61 "CashAllocator$ReceiptBook" "count" "I", Cond.methodLink RX3 76 yX3_requireNotBounced, Cond.instanceMethod yX3_requireNotBounced, Cond.selects RX3 yX3_requireNotBounced yX3_requireNotBounced, Cond.code yX3_requireNotBounced cX3_requireNotBounced 2 none, Cond.fieldLink RX3 161 "CashAllocator$ReceiptBook" "isBounced" "[Z", Cond.methodLink RX3 92 yX2_payBackRest]
def wsL_payBack_r2 : List Cond := [Cond.instanceMethod yX2_payBackRest, Cond.selects RX2 yX2_payBackRest yX2_payBackRest, Cond.initialized RX2, Cond.code yX2_payBackRest cX2_payBackRest 3 (some .int), Cond.fieldLink RX2 21 "CashAllocator$ReceiptBook" "unapplied" "[I", Cond.fieldLink RX2 24 "CashAllocator$ReceiptBook" "paidBack" "[I"]
def wsL_payBack : List Cond := .codeWith yL_payBack cL_payBack 4 (some .int) [(0, 9, 12, 13), (0, 9, 15, 17)] :: ((wsL_payBack_r1 ++ wsL_payBack_r2) ++ wsX30 ++ wsX20 ++ (vx_atS RX3 50 "java/lang/IllegalStateException" ["java/lang/RuntimeException", "java/lang/Exception"]).filter goodWord ++ (vx_atS RX3 149 "java/lang/IndexOutOfBoundsException" ["java/lang/RuntimeException", "java/lang/Exception"]).filter goodWord)
def wsL_bounce_r1 : List Cond := [Cond.classLink RL 13 "java/lang/IndexOutOfBoundsException", Cond.classLink RL 17 "java/lang/IllegalStateException", Cond.methodLink RL 34 yX3_bounce, Cond.instanceMethod yX3_bounce, Cond.selects RX3 yX3_bounce yX3_bounce, Cond.initialized RX3, Cond.code yX3_bounce cX3_bounce 4 (some .int), Cond.classLink RX3 46 "java/lang/IllegalStateException", Cond.initialized "java/lang/IllegalStateException", Cond.fieldLink RX3 19 "CashAllocator" "receiptBook" "LCashAllocator$ReceiptBook;", Cond.fieldLink RX3 96 "CashAllocator$ReceiptBook" "paidBack" "[I", Cond.fieldLink RX3 10 "CashAllocator" "billBook" "LCashAllocator$BillBook;", Cond.fieldLink RX3 43 "CashAllocator$BillBook" "count" "I", Cond.methodLink RX3 73 yX3_requireReceipt, Cond.instanceMethod yX3_requireReceipt, Cond.selects RX3 yX3_requireReceipt yX3_requireReceipt, Cond.code yX3_requireReceipt cX3_requireReceipt 2 none, Cond.classLink RX3 145 "java/lang/IndexOutOfBoundsException", Cond.initialized "java/lang/IndexOutOfBoundsException", Cond.fieldLink RX3 61 "CashAllocator$ReceiptBook" "count" "I", Cond.methodLink RX3 76 yX3_requireNotBounced, Cond.instanceMethod yX3_requireNotBounced, Cond.selects RX3 yX3_requireNotBounced yX3_requireNotBounced, Cond.code yX3_requireNotBounced cX3_requireNotBounced 2 none]
def wsL_bounce_r2 : List Cond := [Cond.fieldLink RX3 161 "CashAllocator$ReceiptBook" "isBounced" "[Z", Cond.methodLink RX3 101 yX2_hasPaid, Cond.instanceMethod yX2_hasPaid, Cond.selects RX2 yX2_hasPaid yX2_hasPaid, Cond.initialized RX2, Cond.code yX2_hasPaid cX2_hasPaid 3 (some .boolean), Cond.fieldLink RX2 34 "CashAllocator$ReceiptBook" "hasSum" "[Z", Cond.methodLink RX2 41 yX2_cell, Cond.static yX2_cell, Cond.code yX2_cell cX2_cell 2 (some .int), Cond.methodLink RX3 105 yX2_paidOf, Cond.instanceMethod yX2_paidOf, Cond.selects RX2 yX2_paidOf yX2_paidOf, Cond.code yX2_paidOf cX2_paidOf 3 (some .int), Cond.fieldLink RX2 31 "CashAllocator$ReceiptBook" "sums" "[I", Cond.methodLink RX3 108 yX0_undo, Cond.instanceMethod yX0_undo, Cond.selects RX0 yX0_undo yX0_undo, Cond.initialized RX0, Cond.code yX0_undo cX0_undo 4 none, Cond.fieldLink RX0 27 "CashAllocator$BillBook" "paid" "[I", Cond.fieldLink RX0 33 "CashAllocator$BillBook" "takenBy" "[I", Cond.fieldLink RX0 30 "CashAllocator$BillBook" "taken" "[I", Cond.fieldLink RX0 39 "CashAllocator$BillBook" "disputedBy" "[I"]
def wsL_bounce_r3 : List Cond := [Cond.methodLink RX0 57 yX0_endDispute, Cond.instanceMethod yX0_endDispute, Cond.selects RX0 yX0_endDispute yX0_endDispute, Cond.code yX0_endDispute cX0_endDispute 4 (some .int), Cond.fieldLink RX0 36 "CashAllocator$BillBook" "disputed" "[I", Cond.fieldLink RX0 42 "CashAllocator$BillBook" "writtenOff" "[I", Cond.methodLink RX3 111 yX2_dropPayment, Cond.instanceMethod yX2_dropPayment, Cond.selects RX2 yX2_dropPayment yX2_dropPayment, Cond.code yX2_dropPayment cX2_dropPayment 3 none, Cond.fieldLink RX2 18 "CashAllocator$ReceiptBook" "applied" "[I", Cond.methodLink RX3 114 yX2_markBounced, Cond.instanceMethod yX2_markBounced, Cond.selects RX2 yX2_markBounced yX2_markBounced, Cond.code yX2_markBounced cX2_markBounced 2 none, Cond.fieldLink RX2 21 "CashAllocator$ReceiptBook" "unapplied" "[I", Cond.fieldLink RX2 27 "CashAllocator$ReceiptBook" "isBounced" "[Z"]
def wsL_bounce : List Cond := .codeWith yL_bounce cL_bounce 4 (some .int) [(0, 9, 12, 13), (0, 9, 15, 17)] :: ((wsL_bounce_r1 ++ (wsL_bounce_r2 ++ wsL_bounce_r3)) ++ wsX30 ++ wsX20 ++ wsX00 ++ (vx_atS RX3 50 "java/lang/IllegalStateException" ["java/lang/RuntimeException", "java/lang/Exception"]).filter goodWord ++ (vx_atS RX3 149 "java/lang/IndexOutOfBoundsException" ["java/lang/RuntimeException", "java/lang/Exception"]).filter goodWord)
def wsL_settle_r1 : List Cond := [Cond.classLink RL 13 "java/lang/IndexOutOfBoundsException", Cond.classLink RL 17 "java/lang/IllegalStateException", Cond.methodLink RL 37 yX3_settle, Cond.instanceMethod yX3_settle, Cond.selects RX3 yX3_settle yX3_settle, Cond.initialized RX3, Cond.code yX3_settle cX3_settle 3 (some .int), Cond.classLink RX3 46 "java/lang/IllegalStateException", Cond.initialized "java/lang/IllegalStateException", Cond.fieldLink RX3 10 "CashAllocator" "billBook" "LCashAllocator$BillBook;", Cond.fieldLink RX3 120 "CashAllocator$BillBook" "disputed" "[I", Cond.methodLink RX3 117 yX3_requireBill, Cond.instanceMethod yX3_requireBill, Cond.selects RX3 yX3_requireBill yX3_requireBill, Cond.code yX3_requireBill cX3_requireBill 2 none, Cond.classLink RX3 145 "java/lang/IndexOutOfBoundsException", Cond.initialized "java/lang/IndexOutOfBoundsException", Cond.fieldLink RX3 43 "CashAllocator$BillBook" "count" "I", Cond.methodLink RX3 125 yX0_endDispute, Cond.instanceMethod yX0_endDispute, Cond.selects RX0 yX0_endDispute yX0_endDispute, Cond.initialized RX0, Cond.code yX0_endDispute cX0_endDispute 4 (some .int), Cond.fieldLink RX0 36 "CashAllocator$BillBook" "disputed" "[I"]
def wsL_settle_r2 : List Cond := [Cond.fieldLink RX0 42 "CashAllocator$BillBook" "writtenOff" "[I", Cond.fieldLink RX0 39 "CashAllocator$BillBook" "disputedBy" "[I"]
def wsL_settle : List Cond := .codeWith yL_settle cL_settle 5 (some .int) [(0, 10, 13, 13), (0, 10, 17, 17)] :: ((wsL_settle_r1 ++ wsL_settle_r2) ++ wsX30 ++ wsX00 ++ (vx_atS RX3 50 "java/lang/IllegalStateException" ["java/lang/RuntimeException", "java/lang/Exception"]).filter goodWord ++ (vx_atS RX3 149 "java/lang/IndexOutOfBoundsException" ["java/lang/RuntimeException", "java/lang/Exception"]).filter goodWord)
def wsL_advance : List Cond := .codeWith yL_advance cL_advance 4 (some .int) [(0, 9, 12, 15)] :: ([.classLink RL 15 "java/lang/IllegalArgumentException", .methodLink RL 41 yX3_advance, .instanceMethod yX3_advance, .selects RX3 yX3_advance yX3_advance, .initialized RX3, .code yX3_advance cX3_advance 2 (some .int), .fieldLink RX3 30 "CashAllocator" "today" "I", .methodLink RX3 39 yX3_requireWithin, .static yX3_requireWithin, .code yX3_requireWithin cX3_requireWithin 3 none, .classLink RX3 150 "java/lang/IllegalArgumentException", .initialized "java/lang/IllegalArgumentException"] ++ wsX30 ++ (vx_atS RX3 154 "java/lang/IllegalArgumentException" ["java/lang/RuntimeException", "java/lang/Exception"]).filter goodWord)
def wsL_open : List Cond := .codeWith yL_open cL_open 4 (some .int) [(0, 9, 12, 13)] :: ([.classLink RL 13 "java/lang/IndexOutOfBoundsException", .methodLink RL 44 yX3_open, .instanceMethod yX3_open, .selects RX3 yX3_open yX3_open, .initialized RX3, .code yX3_open cX3_open 2 (some .int), .fieldLink RX3 10 "CashAllocator" "billBook" "LCashAllocator$BillBook;", .methodLink RX3 117 yX3_requireBill, .instanceMethod yX3_requireBill, .selects RX3 yX3_requireBill yX3_requireBill, .code yX3_requireBill cX3_requireBill 2 none, .classLink RX3 145 "java/lang/IndexOutOfBoundsException", .initialized "java/lang/IndexOutOfBoundsException", .fieldLink RX3 43 "CashAllocator$BillBook" "count" "I", .methodLink RX3 129 yX0_openSum, .instanceMethod yX0_openSum, .selects RX0 yX0_openSum yX0_openSum, .initialized RX0, .code yX0_openSum cX0_openSum 2 (some .int), .fieldLink RX0 15 "CashAllocator$BillBook" "amount" "[I", .fieldLink RX0 27 "CashAllocator$BillBook" "paid" "[I", .fieldLink RX0 30 "CashAllocator$BillBook" "taken" "[I", .fieldLink RX0 36 "CashAllocator$BillBook" "disputed" "[I", .fieldLink RX0 42 "CashAllocator$BillBook" "writtenOff" "[I"] ++ wsX30 ++ wsX00 ++ (vx_atS RX3 149 "java/lang/IndexOutOfBoundsException" ["java/lang/RuntimeException", "java/lang/Exception"]).filter goodWord)
def wsL_due_r1 : List Cond := [Cond.classLink RL 13 "java/lang/IndexOutOfBoundsException", Cond.methodLink RL 47 yX3_due, Cond.instanceMethod yX3_due, Cond.selects RX3 yX3_due yX3_due, Cond.initialized RX3, Cond.code yX3_due cX3_due 2 (some .int), Cond.fieldLink RX3 10 "CashAllocator" "billBook" "LCashAllocator$BillBook;", Cond.fieldLink RX3 30 "CashAllocator" "today" "I", Cond.methodLink RX3 117 yX3_requireBill, Cond.instanceMethod yX3_requireBill, Cond.selects RX3 yX3_requireBill yX3_requireBill, Cond.code yX3_requireBill cX3_requireBill 2 none, Cond.classLink RX3 145 "java/lang/IndexOutOfBoundsException", Cond.initialized "java/lang/IndexOutOfBoundsException", Cond.fieldLink RX3 43 "CashAllocator$BillBook" "count" "I", Cond.methodLink RX3 132 yX0_dueOn, Cond.instanceMethod yX0_dueOn, Cond.selects RX0 yX0_dueOn yX0_dueOn, Cond.initialized RX0, Cond.code yX0_dueOn cX0_dueOn 4 (some .int), Cond.fieldLink RX0 21 "CashAllocator$BillBook" "discount" "[I", Cond.methodLink RX0 49 yX0_openSum, Cond.instanceMethod yX0_openSum, Cond.selects RX0 yX0_openSum yX0_openSum]
def wsL_due_r2 : List Cond := [Cond.code yX0_openSum cX0_openSum 2 (some .int), Cond.fieldLink RX0 15 "CashAllocator$BillBook" "amount" "[I", Cond.fieldLink RX0 27 "CashAllocator$BillBook" "paid" "[I", Cond.fieldLink RX0 30 "CashAllocator$BillBook" "taken" "[I", Cond.fieldLink RX0 36 "CashAllocator$BillBook" "disputed" "[I", Cond.fieldLink RX0 42 "CashAllocator$BillBook" "writtenOff" "[I", Cond.methodLink RX0 53 yX0_allowsDiscount, Cond.instanceMethod yX0_allowsDiscount, Cond.selects RX0 yX0_allowsDiscount yX0_allowsDiscount, Cond.code yX0_allowsDiscount cX0_allowsDiscount 3 (some .boolean), Cond.fieldLink RX0 24 "CashAllocator$BillBook" "lastDiscountDay" "[I"]
def wsL_due : List Cond := .codeWith yL_due cL_due 4 (some .int) [(0, 9, 12, 13)] :: ((wsL_due_r1 ++ wsL_due_r2) ++ wsX30 ++ wsX00 ++ (vx_atS RX3 149 "java/lang/IndexOutOfBoundsException" ["java/lang/RuntimeException", "java/lang/Exception"]).filter goodWord)
def wsL_paid : List Cond := .codeWith yL_paid cL_paid 4 (some .int) [(0, 9, 12, 13)] :: ([.classLink RL 13 "java/lang/IndexOutOfBoundsException", .methodLink RL 50 yX3_paid, .instanceMethod yX3_paid, .selects RX3 yX3_paid yX3_paid, .initialized RX3, .code yX3_paid cX3_paid 2 (some .int), .fieldLink RX3 10 "CashAllocator" "billBook" "LCashAllocator$BillBook;", .fieldLink RX3 135 "CashAllocator$BillBook" "paid" "[I", .methodLink RX3 117 yX3_requireBill, .instanceMethod yX3_requireBill, .selects RX3 yX3_requireBill yX3_requireBill, .code yX3_requireBill cX3_requireBill 2 none, .classLink RX3 145 "java/lang/IndexOutOfBoundsException", .initialized "java/lang/IndexOutOfBoundsException", .fieldLink RX3 43 "CashAllocator$BillBook" "count" "I"] ++ wsX30 ++ wsX00 ++ (vx_atS RX3 149 "java/lang/IndexOutOfBoundsException" ["java/lang/RuntimeException", "java/lang/Exception"]).filter goodWord)
def wsL_taken : List Cond := .codeWith yL_taken cL_taken 4 (some .int) [(0, 9, 12, 13)] :: ([.classLink RL 13 "java/lang/IndexOutOfBoundsException", .methodLink RL 53 yX3_taken, .instanceMethod yX3_taken, .selects RX3 yX3_taken yX3_taken, .initialized RX3, .code yX3_taken cX3_taken 2 (some .int), .fieldLink RX3 10 "CashAllocator" "billBook" "LCashAllocator$BillBook;", .fieldLink RX3 138 "CashAllocator$BillBook" "taken" "[I", .methodLink RX3 117 yX3_requireBill, .instanceMethod yX3_requireBill, .selects RX3 yX3_requireBill yX3_requireBill, .code yX3_requireBill cX3_requireBill 2 none, .classLink RX3 145 "java/lang/IndexOutOfBoundsException", .initialized "java/lang/IndexOutOfBoundsException", .fieldLink RX3 43 "CashAllocator$BillBook" "count" "I"] ++ wsX30 ++ wsX00 ++ (vx_atS RX3 149 "java/lang/IndexOutOfBoundsException" ["java/lang/RuntimeException", "java/lang/Exception"]).filter goodWord)
def wsL_disputed : List Cond := .codeWith yL_disputed cL_disputed 4 (some .int) [(0, 9, 12, 13)] :: ([.classLink RL 13 "java/lang/IndexOutOfBoundsException", .methodLink RL 56 yX3_disputed, .instanceMethod yX3_disputed, .selects RX3 yX3_disputed yX3_disputed, .initialized RX3, .code yX3_disputed cX3_disputed 2 (some .int), .fieldLink RX3 10 "CashAllocator" "billBook" "LCashAllocator$BillBook;", .fieldLink RX3 120 "CashAllocator$BillBook" "disputed" "[I", .methodLink RX3 117 yX3_requireBill, .instanceMethod yX3_requireBill, .selects RX3 yX3_requireBill yX3_requireBill, .code yX3_requireBill cX3_requireBill 2 none, .classLink RX3 145 "java/lang/IndexOutOfBoundsException", .initialized "java/lang/IndexOutOfBoundsException", .fieldLink RX3 43 "CashAllocator$BillBook" "count" "I"] ++ wsX30 ++ wsX00 ++ (vx_atS RX3 149 "java/lang/IndexOutOfBoundsException" ["java/lang/RuntimeException", "java/lang/Exception"]).filter goodWord)
def wsL_writtenOff : List Cond := .codeWith yL_writtenOff cL_writtenOff 4 (some .int) [(0, 9, 12, 13)] :: ([.classLink RL 13 "java/lang/IndexOutOfBoundsException", .methodLink RL 59 yX3_writtenOff, .instanceMethod yX3_writtenOff, .selects RX3 yX3_writtenOff yX3_writtenOff, .initialized RX3, .code yX3_writtenOff cX3_writtenOff 2 (some .int), .fieldLink RX3 10 "CashAllocator" "billBook" "LCashAllocator$BillBook;", .fieldLink RX3 141 "CashAllocator$BillBook" "writtenOff" "[I", .methodLink RX3 117 yX3_requireBill, .instanceMethod yX3_requireBill, .selects RX3 yX3_requireBill yX3_requireBill, .code yX3_requireBill cX3_requireBill 2 none, .classLink RX3 145 "java/lang/IndexOutOfBoundsException", .initialized "java/lang/IndexOutOfBoundsException", .fieldLink RX3 43 "CashAllocator$BillBook" "count" "I"] ++ wsX30 ++ wsX00 ++ (vx_atS RX3 149 "java/lang/IndexOutOfBoundsException" ["java/lang/RuntimeException", "java/lang/Exception"]).filter goodWord)
def wsL_openOf : List Cond := .codeWith yL_openOf cL_openOf 4 (some .int) [(0, 9, 12, 13)] :: ([.classLink RL 13 "java/lang/IndexOutOfBoundsException", .methodLink RL 62 yX3_openOf, .instanceMethod yX3_openOf, .selects RX3 yX3_openOf yX3_openOf, .initialized RX3, .code yX3_openOf cX3_openOf 4 (some .int), .fieldLink RX3 10 "CashAllocator" "billBook" "LCashAllocator$BillBook;", .fieldLink RX3 43 "CashAllocator$BillBook" "count" "I", .fieldLink RX3 144 "CashAllocator$BillBook" "customer" "[I", .methodLink RX3 34 yX3_requireCustomer, .static yX3_requireCustomer, .code yX3_requireCustomer cX3_requireCustomer 1 none, .classLink RX3 145 "java/lang/IndexOutOfBoundsException", .initialized "java/lang/IndexOutOfBoundsException", .methodLink RX3 129 yX0_openSum, .instanceMethod yX0_openSum, .selects RX0 yX0_openSum yX0_openSum, .initialized RX0, .code yX0_openSum cX0_openSum 2 (some .int), .fieldLink RX0 15 "CashAllocator$BillBook" "amount" "[I", .fieldLink RX0 27 "CashAllocator$BillBook" "paid" "[I", .fieldLink RX0 30 "CashAllocator$BillBook" "taken" "[I", .fieldLink RX0 36 "CashAllocator$BillBook" "disputed" "[I", .fieldLink RX0 42 "CashAllocator$BillBook" "writtenOff" "[I"] ++ wsX30 ++ wsX00 ++ (vx_atS RX3 149 "java/lang/IndexOutOfBoundsException" ["java/lang/RuntimeException", "java/lang/Exception"]).filter goodWord)
def wsL_setFor_r1 : List Cond := [Cond.classLink RL 13 "java/lang/IndexOutOfBoundsException", Cond.classLink RL 15 "java/lang/IllegalArgumentException", Cond.methodLink RL 65 yX3_setFor, Cond.instanceMethod yX3_setFor, Cond.selects RX3 yX3_setFor yX3_setFor, Cond.initialized RX3, Cond.code yX3_setFor cX3_setFor 4 (some .int), Cond.classLink RX3 145 "java/lang/IndexOutOfBoundsException", Cond.initialized "java/lang/IndexOutOfBoundsException", Cond.classLink RX3 150 "java/lang/IllegalArgumentException", Cond.initialized "java/lang/IllegalArgumentException", Cond.fieldLink RX3 26 "CashAllocator" "exactSet" "LCashAllocator$ExactSet;", Cond.fieldLink RX3 158 "CashAllocator$ExactSet" "chosen" "[I", Cond.methodLink RX3 34 yX3_requireCustomer, Cond.static yX3_requireCustomer, Cond.code yX3_requireCustomer cX3_requireCustomer 1 none, Cond.methodLink RX3 155 yX3_chooseExactSet, Cond.instanceMethod yX3_chooseExactSet, Cond.selects RX3 yX3_chooseExactSet yX3_chooseExactSet, Cond.code yX3_chooseExactSet cX3_chooseExactSet 4 none, Cond.fieldLink RX3 10 "CashAllocator" "billBook" "LCashAllocator$BillBook;", Cond.fieldLink RX3 43 "CashAllocator$BillBook" "count" "I", Cond.fieldLink RX3 30 "CashAllocator" "today" "I", Cond.methodLink RX3 206 yX1_clear]
def wsL_setFor_r2 : List Cond := [Cond.instanceMethod yX1_clear, Cond.selects RX1 yX1_clear yX1_clear, Cond.initialized RX1, Cond.code yX1_clear cX1_clear 1 none, Cond.fieldLink RX1 21 "CashAllocator$ExactSet" "count" "I", Cond.fieldLink RX1 18 "CashAllocator$ExactSet" "chosen" "[I", Cond.methodLink RX3 182 yX0_isOpenFor, Cond.instanceMethod yX0_isOpenFor, Cond.selects RX0 yX0_isOpenFor yX0_isOpenFor, Cond.initialized RX0, Cond.code yX0_isOpenFor cX0_isOpenFor 3 (some .boolean), Cond.fieldLink RX0 9 "CashAllocator$BillBook" "customer" "[I", Cond.methodLink RX0 49 yX0_openSum, Cond.instanceMethod yX0_openSum, Cond.selects RX0 yX0_openSum yX0_openSum, Cond.code yX0_openSum cX0_openSum 2 (some .int), Cond.fieldLink RX0 15 "CashAllocator$BillBook" "amount" "[I", Cond.fieldLink RX0 27 "CashAllocator$BillBook" "paid" "[I", Cond.fieldLink RX0 30 "CashAllocator$BillBook" "taken" "[I", Cond.fieldLink RX0 36 "CashAllocator$BillBook" "disputed" "[I", Cond.fieldLink RX0 42 "CashAllocator$BillBook" "writtenOff" "[I", Cond.methodLink RX3 132 yX0_dueOn, Cond.instanceMethod yX0_dueOn, Cond.selects RX0 yX0_dueOn yX0_dueOn]
def wsL_setFor_r3 : List Cond := [Cond.code yX0_dueOn cX0_dueOn 4 (some .int), Cond.fieldLink RX0 21 "CashAllocator$BillBook" "discount" "[I", Cond.methodLink RX0 53 yX0_allowsDiscount, Cond.instanceMethod yX0_allowsDiscount, Cond.selects RX0 yX0_allowsDiscount yX0_allowsDiscount, Cond.code yX0_allowsDiscount cX0_allowsDiscount 3 (some .boolean), Cond.fieldLink RX0 24 "CashAllocator$BillBook" "lastDiscountDay" "[I", Cond.methodLink RX3 209 yX1_offer, Cond.instanceMethod yX1_offer, Cond.selects RX1 yX1_offer yX1_offer, Cond.code yX1_offer cX1_offer 3 none, Cond.fieldLink RX1 9 "CashAllocator$ExactSet" "offered" "[I", Cond.fieldLink RX1 15 "CashAllocator$ExactSet" "dues" "[I", Cond.methodLink RX3 212 yX1_choose, Cond.instanceMethod yX1_choose, Cond.selects RX1 yX1_choose yX1_choose, Cond.code yX1_choose cX1_choose 2 none, Cond.methodLink RX1 25 yX1_chooseOne, Cond.instanceMethod yX1_chooseOne, Cond.selects RX1 yX1_chooseOne yX1_chooseOne, Cond.code yX1_chooseOne cX1_chooseOne 3 (some .boolean), Cond.methodLink RX1 36 yX1_find, Cond.instanceMethod yX1_find, Cond.selects RX1 yX1_find yX1_find]
def wsL_setFor_r4 : List Cond := [Cond.code yX1_find cX1_find 4 (some .int), Cond.methodLink RX1 29 yX1_chooseTwo, Cond.instanceMethod yX1_chooseTwo, Cond.selects RX1 yX1_chooseTwo yX1_chooseTwo, Cond.code yX1_chooseTwo cX1_chooseTwo 4 (some .boolean), Cond.methodLink RX1 32 yX1_chooseThree, Cond.instanceMethod yX1_chooseThree, Cond.selects RX1 yX1_chooseThree yX1_chooseThree, Cond.code yX1_chooseThree cX1_chooseThree 5 none]
def wsL_setFor : List Cond := .codeWith yL_setFor cL_setFor 6 (some .int) [(0, 12, 15, 13), (0, 12, 19, 15)] :: ((wsL_setFor_r1 ++ (wsL_setFor_r2 ++ (wsL_setFor_r3 ++ wsL_setFor_r4))) ++ wsX30 ++ wsX10 ++ wsX00 ++ (vx_atS RX3 149 "java/lang/IndexOutOfBoundsException" ["java/lang/RuntimeException", "java/lang/Exception"]).filter goodWord ++ (vx_atS RX3 154 "java/lang/IllegalArgumentException" ["java/lang/RuntimeException", "java/lang/Exception"]).filter goodWord)
def wsL_customerOf : List Cond := .codeWith yL_customerOf cL_customerOf 4 (some .int) [(0, 9, 12, 13)] :: ([.classLink RL 13 "java/lang/IndexOutOfBoundsException", .methodLink RL 68 yX3_customerOf, .instanceMethod yX3_customerOf, .selects RX3 yX3_customerOf yX3_customerOf, .initialized RX3, .code yX3_customerOf cX3_customerOf 2 (some .int), .fieldLink RX3 19 "CashAllocator" "receiptBook" "LCashAllocator$ReceiptBook;", .fieldLink RX3 79 "CashAllocator$ReceiptBook" "customer" "[I", .methodLink RX3 73 yX3_requireReceipt, .instanceMethod yX3_requireReceipt, .selects RX3 yX3_requireReceipt yX3_requireReceipt, .code yX3_requireReceipt cX3_requireReceipt 2 none, .classLink RX3 145 "java/lang/IndexOutOfBoundsException", .initialized "java/lang/IndexOutOfBoundsException", .fieldLink RX3 61 "CashAllocator$ReceiptBook" "count" "I"] ++ wsX30 ++ wsX20 ++ (vx_atS RX3 149 "java/lang/IndexOutOfBoundsException" ["java/lang/RuntimeException", "java/lang/Exception"]).filter goodWord)
def wsL_appliedTo_r1 : List Cond := [Cond.classLink RL 13 "java/lang/IndexOutOfBoundsException", Cond.methodLink RL 71 yX3_appliedTo, Cond.instanceMethod yX3_appliedTo, Cond.selects RX3 yX3_appliedTo yX3_appliedTo, Cond.initialized RX3, Cond.code yX3_appliedTo cX3_appliedTo 3 (some .int), Cond.fieldLink RX3 19 "CashAllocator" "receiptBook" "LCashAllocator$ReceiptBook;", Cond.methodLink RX3 73 yX3_requireReceipt, Cond.instanceMethod yX3_requireReceipt, Cond.selects RX3 yX3_requireReceipt yX3_requireReceipt, Cond.code yX3_requireReceipt cX3_requireReceipt 2 none, Cond.classLink RX3 145 "java/lang/IndexOutOfBoundsException", Cond.initialized "java/lang/IndexOutOfBoundsException", Cond.fieldLink RX3 61 "CashAllocator$ReceiptBook" "count" "I", Cond.methodLink RX3 117 yX3_requireBill, Cond.instanceMethod yX3_requireBill, Cond.selects RX3 yX3_requireBill yX3_requireBill, Cond.code yX3_requireBill cX3_requireBill 2 none, Cond.fieldLink RX3 10 "CashAllocator" "billBook" "LCashAllocator$BillBook;", Cond.fieldLink RX3 43 "CashAllocator$BillBook" "count" "I", Cond.methodLink RX3 105 yX2_paidOf, Cond.instanceMethod yX2_paidOf, Cond.selects RX2 yX2_paidOf yX2_paidOf, Cond.initialized RX2]
def wsL_appliedTo_r2 : List Cond := [Cond.code yX2_paidOf cX2_paidOf 3 (some .int), Cond.fieldLink RX2 31 "CashAllocator$ReceiptBook" "sums" "[I", Cond.methodLink RX2 41 yX2_cell, Cond.static yX2_cell, Cond.code yX2_cell cX2_cell 2 (some .int)]
def wsL_appliedTo : List Cond := .codeWith yL_appliedTo cL_appliedTo 5 (some .int) [(0, 10, 13, 13)] :: ((wsL_appliedTo_r1 ++ wsL_appliedTo_r2) ++ wsX30 ++ wsX20 ++ wsX00 ++ (vx_atS RX3 149 "java/lang/IndexOutOfBoundsException" ["java/lang/RuntimeException", "java/lang/Exception"]).filter goodWord)
def wsL_unapplied : List Cond := .codeWith yL_unapplied cL_unapplied 4 (some .int) [(0, 9, 12, 13)] :: ([.classLink RL 13 "java/lang/IndexOutOfBoundsException", .methodLink RL 74 yX3_unapplied, .instanceMethod yX3_unapplied, .selects RX3 yX3_unapplied yX3_unapplied, .initialized RX3, .code yX3_unapplied cX3_unapplied 2 (some .int), .fieldLink RX3 19 "CashAllocator" "receiptBook" "LCashAllocator$ReceiptBook;", .fieldLink RX3 85 "CashAllocator$ReceiptBook" "unapplied" "[I", .methodLink RX3 73 yX3_requireReceipt, .instanceMethod yX3_requireReceipt, .selects RX3 yX3_requireReceipt yX3_requireReceipt, .code yX3_requireReceipt cX3_requireReceipt 2 none, .classLink RX3 145 "java/lang/IndexOutOfBoundsException", .initialized "java/lang/IndexOutOfBoundsException", .fieldLink RX3 61 "CashAllocator$ReceiptBook" "count" "I"] ++ wsX30 ++ wsX20 ++ (vx_atS RX3 149 "java/lang/IndexOutOfBoundsException" ["java/lang/RuntimeException", "java/lang/Exception"]).filter goodWord)
def wsL_hasBounced : List Cond := .codeWith yL_hasBounced cL_hasBounced 4 (some .int) [(0, 16, 19, 13)] :: ([.classLink RL 13 "java/lang/IndexOutOfBoundsException", .methodLink RL 77 yX3_hasBounced, .instanceMethod yX3_hasBounced, .selects RX3 yX3_hasBounced yX3_hasBounced, .initialized RX3, .code yX3_hasBounced cX3_hasBounced 2 (some .boolean), .fieldLink RX3 19 "CashAllocator" "receiptBook" "LCashAllocator$ReceiptBook;", .fieldLink RX3 161 "CashAllocator$ReceiptBook" "isBounced" "[Z", .methodLink RX3 73 yX3_requireReceipt, .instanceMethod yX3_requireReceipt, .selects RX3 yX3_requireReceipt yX3_requireReceipt, .code yX3_requireReceipt cX3_requireReceipt 2 none, .classLink RX3 145 "java/lang/IndexOutOfBoundsException", .initialized "java/lang/IndexOutOfBoundsException", .fieldLink RX3 61 "CashAllocator$ReceiptBook" "count" "I"] ++ wsX30 ++ wsX20 ++ (vx_atS RX3 149 "java/lang/IndexOutOfBoundsException" ["java/lang/RuntimeException", "java/lang/Exception"]).filter goodWord)
def wsL_law0_r1 : List Cond := [Cond.classLink RL 8 RX3, Cond.instantiable RX3 4, Cond.initialized RX3, Cond.classLink RL 82 RX4, Cond.instantiable RX4 24, Cond.initialized RX4, Cond.arrayClass .long, Cond.methodLink RL 81 yX3_init, Cond.instanceMethod yX3_init, Cond.code yX3_init cX3_init 1 none, Cond.methodLink RX3 1 objectInit, Cond.instanceMethod objectInit, Cond.code objectInit ⟨#[0xb1]⟩ 1 none, Cond.classLink RX3 7 RX0, Cond.instantiable RX0 12, Cond.initialized RX0, Cond.fieldLink RX3 10 "CashAllocator" "billBook" "LCashAllocator$BillBook;", Cond.classLink RX3 16 RX2, Cond.instantiable RX2 9, Cond.initialized RX2, Cond.fieldLink RX3 19 "CashAllocator" "receiptBook" "LCashAllocator$ReceiptBook;", Cond.classLink RX3 23 RX1, Cond.instantiable RX1 4, Cond.initialized RX1]
def wsL_law0_r2 : List Cond := [Cond.fieldLink RX3 26 "CashAllocator" "exactSet" "LCashAllocator$ExactSet;", Cond.fieldLink RX3 30 "CashAllocator" "today" "I", Cond.instanceMethod yX0_init, Cond.code yX0_init cX0_init 1 none, Cond.methodLink RX0 3 objectInit, Cond.arrayClass .int, Cond.fieldLink RX0 9 "CashAllocator$BillBook" "customer" "[I", Cond.fieldLink RX0 15 "CashAllocator$BillBook" "amount" "[I", Cond.fieldLink RX0 18 "CashAllocator$BillBook" "reference" "[I", Cond.fieldLink RX0 21 "CashAllocator$BillBook" "discount" "[I", Cond.fieldLink RX0 24 "CashAllocator$BillBook" "lastDiscountDay" "[I", Cond.fieldLink RX0 27 "CashAllocator$BillBook" "paid" "[I", Cond.fieldLink RX0 30 "CashAllocator$BillBook" "taken" "[I", Cond.fieldLink RX0 33 "CashAllocator$BillBook" "takenBy" "[I", Cond.fieldLink RX0 36 "CashAllocator$BillBook" "disputed" "[I", Cond.fieldLink RX0 39 "CashAllocator$BillBook" "disputedBy" "[I", Cond.fieldLink RX0 42 "CashAllocator$BillBook" "writtenOff" "[I", Cond.instanceMethod yX2_init, Cond.code yX2_init cX2_init 1 none, Cond.methodLink RX2 3 objectInit, Cond.fieldLink RX2 9 "CashAllocator$ReceiptBook" "customer" "[I", Cond.fieldLink RX2 15 "CashAllocator$ReceiptBook" "amount" "[I", Cond.fieldLink RX2 18 "CashAllocator$ReceiptBook" "applied" "[I", Cond.fieldLink RX2 21 "CashAllocator$ReceiptBook" "unapplied" "[I"]
def wsL_law0_r3 : List Cond := [Cond.fieldLink RX2 24 "CashAllocator$ReceiptBook" "paidBack" "[I", Cond.arrayClass .boolean, Cond.fieldLink RX2 27 "CashAllocator$ReceiptBook" "isBounced" "[Z", Cond.fieldLink RX2 31 "CashAllocator$ReceiptBook" "sums" "[I", Cond.fieldLink RX2 34 "CashAllocator$ReceiptBook" "hasSum" "[Z", Cond.instanceMethod yX1_init, Cond.code yX1_init cX1_init 1 none, Cond.methodLink RX1 3 objectInit, Cond.fieldLink RX1 9 "CashAllocator$ExactSet" "offered" "[I", Cond.fieldLink RX1 15 "CashAllocator$ExactSet" "dues" "[I", Cond.fieldLink RX1 18 "CashAllocator$ExactSet" "chosen" "[I", Cond.methodLink RL 84 yX4_init, Cond.instanceMethod yX4_init, Cond.code yX4_init cX4_init 1 none, Cond.methodLink RX4 1 objectInit, Cond.fieldLink RX4 7 "CashAllocatorModel" "owners" "[I", Cond.fieldLink RX4 13 "CashAllocatorModel" "amounts" "[I", Cond.fieldLink RX4 16 "CashAllocatorModel" "references" "[I", Cond.fieldLink RX4 19 "CashAllocatorModel" "days" "[I", Cond.fieldLink RX4 22 "CashAllocatorModel" "rates" "[I", Cond.fieldLink RX4 25 "CashAllocatorModel" "spans" "[I", Cond.fieldLink RX4 28 "CashAllocatorModel" "paidOf" "[I", Cond.fieldLink RX4 31 "CashAllocatorModel" "takenOf" "[I", Cond.fieldLink RX4 34 "CashAllocatorModel" "takers" "[I"]
def wsL_law0_r4 : List Cond := [Cond.fieldLink RX4 37 "CashAllocatorModel" "disputedOf" "[I", Cond.fieldLink RX4 40 "CashAllocatorModel" "raisers" "[I", Cond.fieldLink RX4 43 "CashAllocatorModel" "writtenOf" "[I", Cond.fieldLink RX4 46 "CashAllocatorModel" "sums" "[I", Cond.fieldLink RX4 49 "CashAllocatorModel" "payers" "[I", Cond.fieldLink RX4 52 "CashAllocatorModel" "left" "[I", Cond.fieldLink RX4 55 "CashAllocatorModel" "backs" "[I", Cond.fieldLink RX4 58 "CashAllocatorModel" "isBounced" "[Z", Cond.fieldLink RX4 62 "CashAllocatorModel" "paidBy" "[I", Cond.fieldLink RX4 65 "CashAllocatorModel" "hasPaid" "[Z", Cond.fieldLink RX4 68 "CashAllocatorModel" "chosen" "[I", Cond.methodLink RL 85 yL_bill, Cond.static yL_bill, Cond.initialized RL, Cond.codeWith yL_bill cL_bill 8 (some .int) [(0, 16, 19, 13), (0, 16, 23, 15), (0, 16, 27, 17)], Cond.classLink RL 13 "java/lang/IndexOutOfBoundsException", Cond.classLink RL 15 "java/lang/IllegalArgumentException", Cond.classLink RL 17 "java/lang/IllegalStateException", Cond.methodLink RL 7 yX3_bill, Cond.instanceMethod yX3_bill, Cond.selects RX3 yX3_bill yX3_bill, Cond.code yX3_bill cX3_bill 6 (some .int), Cond.classLink RX3 46 "java/lang/IllegalStateException", Cond.initialized "java/lang/IllegalStateException"]
def wsL_law0_r5 : List Cond := [Cond.constant RX3 38 (1000000), Cond.fieldLink RX3 43 "CashAllocator$BillBook" "count" "I", Cond.methodLink RX3 34 yX3_requireCustomer, Cond.static yX3_requireCustomer, Cond.code yX3_requireCustomer cX3_requireCustomer 1 none, Cond.classLink RX3 145 "java/lang/IndexOutOfBoundsException", Cond.initialized "java/lang/IndexOutOfBoundsException", Cond.methodLink RX3 39 yX3_requireWithin, Cond.static yX3_requireWithin, Cond.code yX3_requireWithin cX3_requireWithin 3 none, Cond.classLink RX3 150 "java/lang/IllegalArgumentException", Cond.initialized "java/lang/IllegalArgumentException", Cond.methodLink RX3 53 yX3_discountOf, Cond.static yX3_discountOf, Cond.code yX3_discountOf cX3_discountOf 2 (some .int), Cond.constantLong RX3 225 (10000), Cond.methodLink RX3 57 yX0_add, Cond.instanceMethod yX0_add, Cond.selects RX0 yX0_add yX0_add, Cond.code yX0_add cX0_add 7 (some .int), Cond.fieldLink RX0 45 "CashAllocator$BillBook" "count" "I", Cond.methodLink RL 90 yX4_bill, Cond.instanceMethod yX4_bill, Cond.selects RX4 yX4_bill yX4_bill]
def wsL_law0_r6 : List Cond := [Cond.code yX4_bill cX4_bill 7 (some .int), Cond.constant RX4 120 (1000000), Cond.fieldLink RX4 79 "CashAllocatorModel" "bills" "I", Cond.fieldLink RX4 89 "CashAllocatorModel" "day" "I", Cond.methodLink RX4 75 yX4_in, Cond.static yX4_in, Cond.code yX4_in cX4_in 3 (some .boolean), Cond.methodLink RX4 121 yX4_isCustomer, Cond.static yX4_isCustomer, Cond.code yX4_isCustomer cX4_isCustomer 1 (some .boolean), Cond.methodLink RX4 124 yX4_refused, Cond.instanceMethod yX4_refused, Cond.selects RX4 yX4_refused yX4_refused, Cond.code yX4_refused cX4_refused 2 (some .boolean), Cond.fieldLink RX4 71 "CashAllocatorModel" "refusal" "I", Cond.methodLink RL 91 yX4_thrown, Cond.instanceMethod yX4_thrown, Cond.selects RX4 yX4_thrown yX4_thrown, Cond.code yX4_thrown cX4_thrown 1 (some .int), Cond.methodLink RL 95 yL_receive, Cond.static yL_receive, Cond.codeWith yL_receive cL_receive 6 (some .int) [(0, 12, 15, 13), (0, 12, 19, 15), (0, 12, 23, 17)], Cond.methodLink RL 19 yX3_receive, Cond.instanceMethod yX3_receive]
def wsL_law0_r7 : List Cond := [Cond.selects RX3 yX3_receive yX3_receive, Cond.code yX3_receive cX3_receive 5 (some .int), Cond.fieldLink RX3 61 "CashAllocator$ReceiptBook" "count" "I", Cond.methodLink RX3 64 yX2_add, Cond.instanceMethod yX2_add, Cond.selects RX2 yX2_add yX2_add, Cond.code yX2_add cX2_add 4 (some .int), Cond.fieldLink RX2 37 "CashAllocator$ReceiptBook" "count" "I", Cond.methodLink RX3 66 yX3_payNamedBills, Cond.instanceMethod yX3_payNamedBills, Cond.selects RX3 yX3_payNamedBills yX3_payNamedBills, Cond.code yX3_payNamedBills cX3_payNamedBills 6 none, Cond.fieldLink RX3 79 "CashAllocator$ReceiptBook" "customer" "[I", Cond.fieldLink RX3 85 "CashAllocator$ReceiptBook" "unapplied" "[I", Cond.fieldLink RX3 185 "CashAllocator$BillBook" "reference" "[I", Cond.methodLink RX3 179 yX0_customerNamedBy, Cond.instanceMethod yX0_customerNamedBy, Cond.selects RX0 yX0_customerNamedBy yX0_customerNamedBy, Cond.code yX0_customerNamedBy cX0_customerNamedBy 3 (some .int), Cond.methodLink RX0 49 yX0_openSum, Cond.instanceMethod yX0_openSum, Cond.selects RX0 yX0_openSum yX0_openSum, Cond.code yX0_openSum cX0_openSum 2 (some .int), Cond.methodLink RX3 182 yX0_isOpenFor]
def wsL_law0_r8 : List Cond := [Cond.instanceMethod yX0_isOpenFor, Cond.selects RX0 yX0_isOpenFor yX0_isOpenFor, Cond.code yX0_isOpenFor cX0_isOpenFor 3 (some .boolean), Cond.methodLink RX3 188 yX3_payBill, Cond.instanceMethod yX3_payBill, Cond.selects RX3 yX3_payBill yX3_payBill, Cond.code yX3_payBill cX3_payBill 7 (some .boolean), Cond.fieldLink RX3 135 "CashAllocator$BillBook" "paid" "[I", Cond.methodLink RX3 132 yX0_dueOn, Cond.instanceMethod yX0_dueOn, Cond.selects RX0 yX0_dueOn yX0_dueOn, Cond.code yX0_dueOn cX0_dueOn 4 (some .int), Cond.methodLink RX0 53 yX0_allowsDiscount, Cond.instanceMethod yX0_allowsDiscount, Cond.selects RX0 yX0_allowsDiscount yX0_allowsDiscount, Cond.code yX0_allowsDiscount cX0_allowsDiscount 3 (some .boolean), Cond.methodLink RX3 200 yX0_takeDiscount, Cond.instanceMethod yX0_takeDiscount, Cond.selects RX0 yX0_takeDiscount yX0_takeDiscount, Cond.code yX0_takeDiscount cX0_takeDiscount 4 none, Cond.methodLink RX3 203 yX2_addPayment, Cond.instanceMethod yX2_addPayment, Cond.selects RX2 yX2_addPayment yX2_addPayment, Cond.code yX2_addPayment cX2_addPayment 4 none]
def wsL_law0_r9 : List Cond := [Cond.methodLink RX2 41 yX2_cell, Cond.static yX2_cell, Cond.code yX2_cell cX2_cell 2 (some .int), Cond.methodLink RX3 191 yX0_disputeRest, Cond.instanceMethod yX0_disputeRest, Cond.selects RX0 yX0_disputeRest yX0_disputeRest, Cond.code yX0_disputeRest cX0_disputeRest 3 none, Cond.methodLink RX3 70 yX3_payOtherBills, Cond.instanceMethod yX3_payOtherBills, Cond.selects RX3 yX3_payOtherBills yX3_payOtherBills, Cond.code yX3_payOtherBills cX3_payOtherBills 2 none, Cond.methodLink RX3 194 yX3_payExactSet, Cond.instanceMethod yX3_payExactSet, Cond.selects RX3 yX3_payExactSet yX3_payExactSet, Cond.code yX3_payExactSet cX3_payExactSet 4 none, Cond.fieldLink RX3 158 "CashAllocator$ExactSet" "chosen" "[I", Cond.methodLink RX3 155 yX3_chooseExactSet, Cond.instanceMethod yX3_chooseExactSet, Cond.selects RX3 yX3_chooseExactSet yX3_chooseExactSet, Cond.code yX3_chooseExactSet cX3_chooseExactSet 4 none, Cond.methodLink RX3 206 yX1_clear, Cond.instanceMethod yX1_clear, Cond.selects RX1 yX1_clear yX1_clear, Cond.code yX1_clear cX1_clear 1 none]
def wsL_law0_r10 : List Cond := [Cond.fieldLink RX1 21 "CashAllocator$ExactSet" "count" "I", Cond.methodLink RX3 209 yX1_offer, Cond.instanceMethod yX1_offer, Cond.selects RX1 yX1_offer yX1_offer, Cond.code yX1_offer cX1_offer 3 none, Cond.methodLink RX3 212 yX1_choose, Cond.instanceMethod yX1_choose, Cond.selects RX1 yX1_choose yX1_choose, Cond.code yX1_choose cX1_choose 2 none, Cond.methodLink RX1 25 yX1_chooseOne, Cond.instanceMethod yX1_chooseOne, Cond.selects RX1 yX1_chooseOne yX1_chooseOne, Cond.code yX1_chooseOne cX1_chooseOne 3 (some .boolean), Cond.methodLink RX1 36 yX1_find, Cond.instanceMethod yX1_find, Cond.selects RX1 yX1_find yX1_find, Cond.code yX1_find cX1_find 4 (some .int), Cond.methodLink RX1 29 yX1_chooseTwo, Cond.instanceMethod yX1_chooseTwo, Cond.selects RX1 yX1_chooseTwo yX1_chooseTwo, Cond.code yX1_chooseTwo cX1_chooseTwo 4 (some .boolean), Cond.methodLink RX1 32 yX1_chooseThree, Cond.instanceMethod yX1_chooseThree, Cond.selects RX1 yX1_chooseThree yX1_chooseThree]
def wsL_law0_r11 : List Cond := [Cond.code yX1_chooseThree cX1_chooseThree 5 none, Cond.methodLink RX3 197 yX3_payOldestBills, Cond.instanceMethod yX3_payOldestBills, Cond.selects RX3 yX3_payOldestBills yX3_payOldestBills, Cond.code yX3_payOldestBills cX3_payOldestBills 4 none, Cond.methodLink RL 98 yX4_receive, Cond.instanceMethod yX4_receive, Cond.selects RX4 yX4_receive yX4_receive, Cond.code yX4_receive cX4_receive 6 (some .int), Cond.fieldLink RX4 82 "CashAllocatorModel" "receipts" "I", Cond.methodLink RX4 127 yX4_payNamed, Cond.instanceMethod yX4_payNamed, Cond.selects RX4 yX4_payNamed yX4_payNamed, Cond.code yX4_payNamed cX4_payNamed 5 none, Cond.methodLink RX4 85 yX4_openNow, Cond.instanceMethod yX4_openNow, Cond.selects RX4 yX4_openNow yX4_openNow, Cond.code yX4_openNow cX4_openNow 2 (some .int), Cond.methodLink RX4 100 yX4_pay, Cond.instanceMethod yX4_pay, Cond.selects RX4 yX4_pay yX4_pay, Cond.code yX4_pay cX4_pay 7 (some .boolean), Cond.methodLink RX4 97 yX4_dueNow, Cond.instanceMethod yX4_dueNow]
def wsL_law0_r12 : List Cond := [Cond.selects RX4 yX4_dueNow yX4_dueNow, Cond.code yX4_dueNow cX4_dueNow 2 (some .int), Cond.methodLink RX4 94 yX4_discount, Cond.instanceMethod yX4_discount, Cond.selects RX4 yX4_discount yX4_discount, Cond.code yX4_discount cX4_discount 3 (some .int), Cond.constantLong RX4 92 (10000), Cond.methodLink RX4 104 yX4_dispute, Cond.instanceMethod yX4_dispute, Cond.selects RX4 yX4_dispute yX4_dispute, Cond.code yX4_dispute cX4_dispute 3 none, Cond.methodLink RX4 130 yX4_payOthers, Cond.instanceMethod yX4_payOthers, Cond.selects RX4 yX4_payOthers yX4_payOthers, Cond.code yX4_payOthers cX4_payOthers 11 none, Cond.methodLink RX4 116 yX4_choose, Cond.instanceMethod yX4_choose, Cond.selects RX4 yX4_choose yX4_choose, Cond.code yX4_choose cX4_choose 12 (some .int), Cond.methodLink RX4 112 yX4_dueOf, Cond.instanceMethod yX4_dueOf, Cond.selects RX4 yX4_dueOf yX4_dueOf, Cond.code yX4_dueOf cX4_dueOf 3 (some .int), Cond.methodLink RX4 108 yX4_isBill]
def wsL_law0_r13 : List Cond := [Cond.instanceMethod yX4_isBill, Cond.selects RX4 yX4_isBill yX4_isBill, Cond.code yX4_isBill cX4_isBill 2 (some .boolean), Cond.methodLink RL 99 yL_assign, Cond.static yL_assign, Cond.codeWith yL_assign cL_assign 5 (some .int) [(0, 10, 13, 13), (0, 10, 17, 17)], Cond.methodLink RL 23 yX3_assign, Cond.instanceMethod yX3_assign, Cond.selects RX3 yX3_assign yX3_assign, Cond.code yX3_assign cX3_assign 3 (some .int), Cond.methodLink RX3 73 yX3_requireReceipt, Cond.instanceMethod yX3_requireReceipt, Cond.selects RX3 yX3_requireReceipt yX3_requireReceipt, Cond.code yX3_requireReceipt cX3_requireReceipt 2 none, Cond.methodLink RX3 76 yX3_requireNotBounced, Cond.instanceMethod yX3_requireNotBounced, Cond.selects RX3 yX3_requireNotBounced yX3_requireNotBounced, Cond.code yX3_requireNotBounced cX3_requireNotBounced 2 none, Cond.fieldLink RX3 161 "CashAllocator$ReceiptBook" "isBounced" "[Z", Cond.methodLink RL 102 yX4_assign, Cond.instanceMethod yX4_assign, Cond.selects RX4 yX4_assign yX4_assign, Cond.code yX4_assign cX4_assign 4 (some .int), Cond.methodLink RX4 134 yX4_isReceipt]
def wsL_law0_r14 : List Cond := [Cond.instanceMethod yX4_isReceipt, Cond.selects RX4 yX4_isReceipt yX4_isReceipt, Cond.code yX4_isReceipt cX4_isReceipt 2 (some .boolean), Cond.methodLink RL 103 yL_apply, Cond.static yL_apply, Cond.codeWith yL_apply cL_apply 4 (some .int) [(0, 9, 12, 13), (0, 9, 15, 17)], Cond.methodLink RL 27 yX3_apply, Cond.instanceMethod yX3_apply, Cond.selects RX3 yX3_apply yX3_apply, Cond.code yX3_apply cX3_apply 2 (some .int), Cond.methodLink RL 106 yX4_apply, Cond.instanceMethod yX4_apply, Cond.selects RX4 yX4_apply yX4_apply, Cond.code yX4_apply cX4_apply 2 (some .int), Cond.methodLink RL 107 yL_payBack, Cond.static yL_payBack, Cond.codeWith yL_payBack cL_payBack 4 (some .int) [(0, 9, 12, 13), (0, 9, 15, 17)], Cond.methodLink RL 31 yX3_payBack, Cond.instanceMethod yX3_payBack, Cond.selects RX3 yX3_payBack yX3_payBack, Cond.code yX3_payBack cX3_payBack 2 (some .int), Cond.methodLink RX3 92 yX2_payBackRest, Cond.instanceMethod yX2_payBackRest, Cond.selects RX2 yX2_payBackRest yX2_payBackRest]
def wsL_law0_r15 : List Cond := [Cond.code yX2_payBackRest cX2_payBackRest 3 (some .int), Cond.methodLink RL 109 yX4_payBack, Cond.instanceMethod yX4_payBack, Cond.selects RX4 yX4_payBack yX4_payBack, Cond.code yX4_payBack cX4_payBack 3 (some .int), Cond.methodLink RL 110 yL_bounce, Cond.static yL_bounce, Cond.codeWith yL_bounce cL_bounce 4 (some .int) [(0, 9, 12, 13), (0, 9, 15, 17)], Cond.methodLink RL 34 yX3_bounce, Cond.instanceMethod yX3_bounce, Cond.selects RX3 yX3_bounce yX3_bounce, Cond.code yX3_bounce cX3_bounce 4 (some .int), Cond.fieldLink RX3 96 "CashAllocator$ReceiptBook" "paidBack" "[I", Cond.methodLink RX3 101 yX2_hasPaid, Cond.instanceMethod yX2_hasPaid, Cond.selects RX2 yX2_hasPaid yX2_hasPaid, Cond.code yX2_hasPaid cX2_hasPaid 3 (some .boolean), Cond.methodLink RX3 105 yX2_paidOf, Cond.instanceMethod yX2_paidOf, Cond.selects RX2 yX2_paidOf yX2_paidOf, Cond.code yX2_paidOf cX2_paidOf 3 (some .int), Cond.methodLink RX3 108 yX0_undo, Cond.instanceMethod yX0_undo, Cond.selects RX0 yX0_undo yX0_undo]
def wsL_law0_r16 : List Cond := [Cond.code yX0_undo cX0_undo 4 none, Cond.methodLink RX0 57 yX0_endDispute, Cond.instanceMethod yX0_endDispute, Cond.selects RX0 yX0_endDispute yX0_endDispute, Cond.code yX0_endDispute cX0_endDispute 4 (some .int), Cond.methodLink RX3 111 yX2_dropPayment, Cond.instanceMethod yX2_dropPayment, Cond.selects RX2 yX2_dropPayment yX2_dropPayment, Cond.code yX2_dropPayment cX2_dropPayment 3 none, Cond.methodLink RX3 114 yX2_markBounced, Cond.instanceMethod yX2_markBounced, Cond.selects RX2 yX2_markBounced yX2_markBounced, Cond.code yX2_markBounced cX2_markBounced 2 none, Cond.methodLink RL 112 yX4_bounce, Cond.instanceMethod yX4_bounce, Cond.selects RX4 yX4_bounce yX4_bounce, Cond.code yX4_bounce cX4_bounce 5 (some .int), Cond.methodLink RL 113 yL_settle, Cond.static yL_settle, Cond.codeWith yL_settle cL_settle 5 (some .int) [(0, 10, 13, 13), (0, 10, 17, 17)], Cond.methodLink RL 37 yX3_settle, Cond.instanceMethod yX3_settle, Cond.selects RX3 yX3_settle yX3_settle, Cond.code yX3_settle cX3_settle 3 (some .int)]
def wsL_law0_r17 : List Cond := [Cond.fieldLink RX3 120 "CashAllocator$BillBook" "disputed" "[I", Cond.methodLink RX3 117 yX3_requireBill, Cond.instanceMethod yX3_requireBill, Cond.selects RX3 yX3_requireBill yX3_requireBill, Cond.code yX3_requireBill cX3_requireBill 2 none, Cond.methodLink RX3 125 yX0_endDispute, Cond.methodLink RL 116 yX4_settle, Cond.instanceMethod yX4_settle, Cond.selects RX4 yX4_settle yX4_settle, Cond.code yX4_settle cX4_settle 4 (some .int), Cond.methodLink RL 117 yL_advance, Cond.static yL_advance, Cond.codeWith yL_advance cL_advance 4 (some .int) [(0, 9, 12, 15)], Cond.methodLink RL 41 yX3_advance, Cond.instanceMethod yX3_advance, Cond.selects RX3 yX3_advance yX3_advance, Cond.code yX3_advance cX3_advance 2 (some .int), Cond.methodLink RL 119 yX4_advance, Cond.instanceMethod yX4_advance, Cond.selects RX4 yX4_advance yX4_advance, Cond.code yX4_advance cX4_advance 2 (some .int), Cond.methodLink RL 120 yX3_bills, Cond.instanceMethod yX3_bills, Cond.selects RX3 yX3_bills yX3_bills]
def wsL_law0_r18 : List Cond := [Cond.code yX3_bills cX3_bills 1 (some .int), Cond.methodLink RL 123 yX4_bills, Cond.instanceMethod yX4_bills, Cond.selects RX4 yX4_bills yX4_bills, Cond.code yX4_bills cX4_bills 1 (some .int), Cond.methodLink RX4 137 yX4_fine, Cond.instanceMethod yX4_fine, Cond.selects RX4 yX4_fine yX4_fine, Cond.code yX4_fine cX4_fine 2 (some .int), Cond.methodLink RL 124 yL_open, Cond.static yL_open, Cond.codeWith yL_open cL_open 4 (some .int) [(0, 9, 12, 13)], Cond.methodLink RL 44 yX3_open, Cond.instanceMethod yX3_open, Cond.selects RX3 yX3_open yX3_open, Cond.code yX3_open cX3_open 2 (some .int), Cond.methodLink RX3 129 yX0_openSum, Cond.methodLink RL 126 yX4_open, Cond.instanceMethod yX4_open, Cond.selects RX4 yX4_open yX4_open, Cond.code yX4_open cX4_open 2 (some .int), Cond.methodLink RX4 140 yX4_noBill, Cond.instanceMethod yX4_noBill, Cond.selects RX4 yX4_noBill yX4_noBill]
def wsL_law0_r19 : List Cond := [Cond.code yX4_noBill cX4_noBill 2 (some .boolean), Cond.methodLink RL 127 yL_due, Cond.static yL_due, Cond.codeWith yL_due cL_due 4 (some .int) [(0, 9, 12, 13)], Cond.methodLink RL 47 yX3_due, Cond.instanceMethod yX3_due, Cond.selects RX3 yX3_due yX3_due, Cond.code yX3_due cX3_due 2 (some .int), Cond.methodLink RL 129 yX4_due, Cond.instanceMethod yX4_due, Cond.selects RX4 yX4_due yX4_due, Cond.code yX4_due cX4_due 2 (some .int), Cond.methodLink RL 130 yL_paid, Cond.static yL_paid, Cond.codeWith yL_paid cL_paid 4 (some .int) [(0, 9, 12, 13)], Cond.methodLink RL 50 yX3_paid, Cond.instanceMethod yX3_paid, Cond.selects RX3 yX3_paid yX3_paid, Cond.code yX3_paid cX3_paid 2 (some .int), Cond.methodLink RL 132 yX4_paid, Cond.instanceMethod yX4_paid, Cond.selects RX4 yX4_paid yX4_paid, Cond.code yX4_paid cX4_paid 2 (some .int), Cond.methodLink RL 133 yL_taken]
def wsL_law0_r20 : List Cond := [Cond.static yL_taken, Cond.codeWith yL_taken cL_taken 4 (some .int) [(0, 9, 12, 13)], Cond.methodLink RL 53 yX3_taken, Cond.instanceMethod yX3_taken, Cond.selects RX3 yX3_taken yX3_taken, Cond.code yX3_taken cX3_taken 2 (some .int), Cond.fieldLink RX3 138 "CashAllocator$BillBook" "taken" "[I", Cond.methodLink RL 135 yX4_taken, Cond.instanceMethod yX4_taken, Cond.selects RX4 yX4_taken yX4_taken, Cond.code yX4_taken cX4_taken 2 (some .int), Cond.methodLink RL 136 yL_disputed, Cond.static yL_disputed, Cond.codeWith yL_disputed cL_disputed 4 (some .int) [(0, 9, 12, 13)], Cond.methodLink RL 56 yX3_disputed, Cond.instanceMethod yX3_disputed, Cond.selects RX3 yX3_disputed yX3_disputed, Cond.code yX3_disputed cX3_disputed 2 (some .int), Cond.methodLink RL 138 yX4_disputed, Cond.instanceMethod yX4_disputed, Cond.selects RX4 yX4_disputed yX4_disputed, Cond.code yX4_disputed cX4_disputed 2 (some .int), Cond.methodLink RL 139 yL_writtenOff, Cond.static yL_writtenOff]
def wsL_law0_r21 : List Cond := [Cond.codeWith yL_writtenOff cL_writtenOff 4 (some .int) [(0, 9, 12, 13)], Cond.methodLink RL 59 yX3_writtenOff, Cond.instanceMethod yX3_writtenOff, Cond.selects RX3 yX3_writtenOff yX3_writtenOff, Cond.code yX3_writtenOff cX3_writtenOff 2 (some .int), Cond.fieldLink RX3 141 "CashAllocator$BillBook" "writtenOff" "[I", Cond.methodLink RL 141 yX4_writtenOff, Cond.instanceMethod yX4_writtenOff, Cond.selects RX4 yX4_writtenOff yX4_writtenOff, Cond.code yX4_writtenOff cX4_writtenOff 2 (some .int), Cond.methodLink RL 142 yL_openOf, Cond.static yL_openOf, Cond.codeWith yL_openOf cL_openOf 4 (some .int) [(0, 9, 12, 13)], Cond.methodLink RL 62 yX3_openOf, Cond.instanceMethod yX3_openOf, Cond.selects RX3 yX3_openOf yX3_openOf, Cond.code yX3_openOf cX3_openOf 4 (some .int), Cond.fieldLink RX3 144 "CashAllocator$BillBook" "customer" "[I", Cond.methodLink RL 144 yX4_openOf, Cond.instanceMethod yX4_openOf, Cond.selects RX4 yX4_openOf yX4_openOf, Cond.code yX4_openOf cX4_openOf 4 (some .int), Cond.methodLink RL 145 yL_setFor, Cond.static yL_setFor]
def wsL_law0_r22 : List Cond := [Cond.codeWith yL_setFor cL_setFor 6 (some .int) [(0, 12, 15, 13), (0, 12, 19, 15)], Cond.methodLink RL 65 yX3_setFor, Cond.instanceMethod yX3_setFor, Cond.selects RX3 yX3_setFor yX3_setFor, Cond.code yX3_setFor cX3_setFor 4 (some .int), Cond.methodLink RL 147 yX4_setFor, Cond.instanceMethod yX4_setFor, Cond.selects RX4 yX4_setFor yX4_setFor, Cond.code yX4_setFor cX4_setFor 5 (some .int), Cond.methodLink RL 148 yX3_receipts, Cond.instanceMethod yX3_receipts, Cond.selects RX3 yX3_receipts yX3_receipts, Cond.code yX3_receipts cX3_receipts 1 (some .int), Cond.methodLink RL 151 yX4_receipts, Cond.instanceMethod yX4_receipts, Cond.selects RX4 yX4_receipts yX4_receipts, Cond.code yX4_receipts cX4_receipts 1 (some .int), Cond.methodLink RL 152 yL_customerOf, Cond.static yL_customerOf, Cond.codeWith yL_customerOf cL_customerOf 4 (some .int) [(0, 9, 12, 13)], Cond.methodLink RL 68 yX3_customerOf, Cond.instanceMethod yX3_customerOf, Cond.selects RX3 yX3_customerOf yX3_customerOf, Cond.code yX3_customerOf cX3_customerOf 2 (some .int)]
def wsL_law0_r23 : List Cond := [Cond.methodLink RL 154 yX4_customerOf, Cond.instanceMethod yX4_customerOf, Cond.selects RX4 yX4_customerOf yX4_customerOf, Cond.code yX4_customerOf cX4_customerOf 2 (some .int), Cond.methodLink RX4 143 yX4_noReceipt, Cond.instanceMethod yX4_noReceipt, Cond.selects RX4 yX4_noReceipt yX4_noReceipt, Cond.code yX4_noReceipt cX4_noReceipt 2 (some .boolean), Cond.methodLink RL 155 yL_appliedTo, Cond.static yL_appliedTo, Cond.codeWith yL_appliedTo cL_appliedTo 5 (some .int) [(0, 10, 13, 13)], Cond.methodLink RL 71 yX3_appliedTo, Cond.instanceMethod yX3_appliedTo, Cond.selects RX3 yX3_appliedTo yX3_appliedTo, Cond.code yX3_appliedTo cX3_appliedTo 3 (some .int), Cond.methodLink RL 157 yX4_appliedTo, Cond.instanceMethod yX4_appliedTo, Cond.selects RX4 yX4_appliedTo yX4_appliedTo, Cond.code yX4_appliedTo cX4_appliedTo 3 (some .int), Cond.methodLink RL 158 yL_unapplied, Cond.static yL_unapplied, Cond.codeWith yL_unapplied cL_unapplied 4 (some .int) [(0, 9, 12, 13)], Cond.methodLink RL 74 yX3_unapplied, Cond.instanceMethod yX3_unapplied]
def wsL_law0_r24 : List Cond := [Cond.selects RX3 yX3_unapplied yX3_unapplied, Cond.code yX3_unapplied cX3_unapplied 2 (some .int), Cond.methodLink RL 160 yX4_unapplied, Cond.instanceMethod yX4_unapplied, Cond.selects RX4 yX4_unapplied yX4_unapplied, Cond.code yX4_unapplied cX4_unapplied 2 (some .int), Cond.methodLink RL 161 yL_hasBounced, Cond.static yL_hasBounced, Cond.codeWith yL_hasBounced cL_hasBounced 4 (some .int) [(0, 16, 19, 13)], Cond.methodLink RL 77 yX3_hasBounced, Cond.instanceMethod yX3_hasBounced, Cond.selects RX3 yX3_hasBounced yX3_hasBounced, Cond.code yX3_hasBounced cX3_hasBounced 2 (some .boolean), Cond.methodLink RL 163 yX4_hasBounced, Cond.instanceMethod yX4_hasBounced, Cond.selects RX4 yX4_hasBounced yX4_hasBounced, Cond.code yX4_hasBounced cX4_hasBounced 2 (some .boolean), Cond.methodLink RL 164 yX3_day, Cond.instanceMethod yX3_day, Cond.selects RX3 yX3_day yX3_day, Cond.code yX3_day cX3_day 1 (some .int), Cond.methodLink RL 167 yX4_day, Cond.instanceMethod yX4_day, Cond.selects RX4 yX4_day yX4_day]
def wsL_law0_r25 : List Cond := [Cond.code yX4_day cX4_day 1 (some .int), Cond.methodLink RL 168 yX3_received, Cond.instanceMethod yX3_received, Cond.selects RX3 yX3_received yX3_received, Cond.code yX3_received cX3_received 1 (some .int), Cond.fieldLink RX3 165 "CashAllocator$ReceiptBook" "amount" "[I", Cond.methodLink RX3 168 yX2_totalOf, Cond.instanceMethod yX2_totalOf, Cond.selects RX2 yX2_totalOf yX2_totalOf, Cond.code yX2_totalOf cX2_totalOf 4 (some .int), Cond.methodLink RL 171 yX4_received, Cond.instanceMethod yX4_received, Cond.selects RX4 yX4_received yX4_received, Cond.code yX4_received cX4_received 1 (some .int), Cond.methodLink RX4 146 yX4_all, Cond.instanceMethod yX4_all, Cond.selects RX4 yX4_all yX4_all, Cond.code yX4_all cX4_all 4 (some .int), Cond.methodLink RL 172 yX3_applied, Cond.instanceMethod yX3_applied, Cond.selects RX3 yX3_applied yX3_applied, Cond.code yX3_applied cX3_applied 1 (some .int), Cond.fieldLink RX3 172 "CashAllocator$ReceiptBook" "applied" "[I", Cond.methodLink RL 175 yX4_applied]
def wsL_law0_r26 : List Cond := [Cond.instanceMethod yX4_applied, Cond.selects RX4 yX4_applied yX4_applied, Cond.code yX4_applied cX4_applied 1 (some .int), Cond.methodLink RX4 150 yX4_allBounced, Cond.instanceMethod yX4_allBounced, Cond.selects RX4 yX4_allBounced yX4_allBounced, Cond.code yX4_allBounced cX4_allBounced 3 (some .int), Cond.methodLink RL 176 yX3_allUnapplied, Cond.instanceMethod yX3_allUnapplied, Cond.selects RX3 yX3_allUnapplied yX3_allUnapplied, Cond.code yX3_allUnapplied cX3_allUnapplied 1 (some .int), Cond.methodLink RL 179 yX4_allUnapplied, Cond.instanceMethod yX4_allUnapplied, Cond.selects RX4 yX4_allUnapplied yX4_allUnapplied, Cond.code yX4_allUnapplied cX4_allUnapplied 1 (some .int), Cond.methodLink RL 180 yX3_paidBack, Cond.instanceMethod yX3_paidBack, Cond.selects RX3 yX3_paidBack yX3_paidBack, Cond.code yX3_paidBack cX3_paidBack 1 (some .int), Cond.methodLink RL 183 yX4_paidBack, Cond.instanceMethod yX4_paidBack, Cond.selects RX4 yX4_paidBack yX4_paidBack, Cond.code yX4_paidBack cX4_paidBack 1 (some .int), Cond.methodLink RL 184 yX3_bounced]
def wsL_law0_r27 : List Cond := [Cond.instanceMethod yX3_bounced, Cond.selects RX3 yX3_bounced yX3_bounced, Cond.code yX3_bounced cX3_bounced 1 (some .int), Cond.methodLink RX3 175 yX2_bouncedTotal, Cond.instanceMethod yX2_bouncedTotal, Cond.selects RX2 yX2_bouncedTotal yX2_bouncedTotal, Cond.code yX2_bouncedTotal cX2_bouncedTotal 3 (some .int), Cond.methodLink RL 187 yX4_bounced, Cond.instanceMethod yX4_bounced, Cond.selects RX4 yX4_bounced yX4_bounced, Cond.code yX4_bounced cX4_bounced 1 (some .int)]
def wsL_law0 : List Cond := (wsL_law0_r1 ++ (wsL_law0_r2 ++ (wsL_law0_r3 ++ (wsL_law0_r4 ++ (wsL_law0_r5 ++ (wsL_law0_r6 ++ (wsL_law0_r7 ++ (wsL_law0_r8 ++ (wsL_law0_r9 ++ (wsL_law0_r10 ++ (wsL_law0_r11 ++ (wsL_law0_r12 ++ (wsL_law0_r13 ++ (wsL_law0_r14 ++ (wsL_law0_r15 ++ (wsL_law0_r16 ++ (wsL_law0_r17 ++ (wsL_law0_r18 ++ (wsL_law0_r19 ++ (wsL_law0_r20 ++ (wsL_law0_r21 ++ (wsL_law0_r22 ++ (wsL_law0_r23 ++ (wsL_law0_r24 ++ (wsL_law0_r25 ++ (wsL_law0_r26 ++ wsL_law0_r27)))))))))))))))))))))))))) ++ wsX30 ++ wsX40 ++ wsX00 ++ wsX20 ++ wsX10 ++ ([] : List Cond)
def wsL_law : List Cond := wsL_law0 ++ (vx_atS RX3 50 "java/lang/IllegalStateException" ["java/lang/RuntimeException", "java/lang/Exception"]).filter goodWord ++ (vx_atS RX3 149 "java/lang/IndexOutOfBoundsException" ["java/lang/RuntimeException", "java/lang/Exception"]).filter goodWord ++ (vx_atS RX3 154 "java/lang/IllegalArgumentException" ["java/lang/RuntimeException", "java/lang/Exception"]).filter goodWord
abbrev vwCl : List vw_C := [(RX0, TX0, 12), (RX1, TX1, 4), (RX2, TX2, 9), (RX3, TX3, 4), (RX4, TX4, 24)]

theorem nmX0 : ∀ a, a < 12 → ∀ b, b < 12 → a ≠ b → (TX0 a).2.1 ≠ (TX0 b).2.1 := by decide +kernel
theorem tyX0_ok : ∀ k, k < 12 → parseFieldDescriptor (TX0 k).2.2.1 = some (tyX0 k) := by decide +kernel
theorem nmX1 : ∀ a, a < 4 → ∀ b, b < 4 → a ≠ b → (TX1 a).2.1 ≠ (TX1 b).2.1 := by decide +kernel
theorem tyX1_ok : ∀ k, k < 4 → parseFieldDescriptor (TX1 k).2.2.1 = some (tyX1 k) := by decide +kernel
theorem nmX2 : ∀ a, a < 9 → ∀ b, b < 9 → a ≠ b → (TX2 a).2.1 ≠ (TX2 b).2.1 := by decide +kernel
theorem tyX2_ok : ∀ k, k < 9 → parseFieldDescriptor (TX2 k).2.2.1 = some (tyX2 k) := by decide +kernel
theorem nmX3 : ∀ a, a < 4 → ∀ b, b < 4 → a ≠ b → (TX3 a).2.1 ≠ (TX3 b).2.1 := by decide +kernel
theorem tyX3_ok : ∀ k, k < 4 → parseFieldDescriptor (TX3 k).2.2.1 = some (tyX3 k) := by decide +kernel
theorem nmX4 : ∀ a, a < 24 → ∀ b, b < 24 → a ≠ b → (TX4 a).2.1 ≠ (TX4 b).2.1 := by decide +kernel
theorem tyX4_ok : ∀ k, k < 24 → parseFieldDescriptor (TX4 k).2.2.1 = some (tyX4 k) := by decide +kernel
theorem nmJ0 : ∀ a, a < 0 → ∀ b, b < 0 → a ≠ b → (TJ0 a).2.1 ≠ (TJ0 b).2.1 := by decide +kernel
theorem tyJ0_ok : ∀ k, k < 0 → parseFieldDescriptor (TJ0 k).2.2.1 = some (tyJ0 k) := by decide +kernel
end
section
set_option maxRecDepth 20000 in
theorem ggX0_isOpenFor_X0_openSum : GoodIn wsX0_isOpenFor wsX0_openSum := goodIn_r _ [6, 7, 8, 9, 10, 11, 12, 13, 14, 15, 16, 17, 18, 19, 20, 21, 22, 23] (by rfl) (by rfl)
set_option maxRecDepth 20000 in
theorem gX0_isOpenFor_X0_openSum : GoodIn wsX0_isOpenFor (wsV RX0 49 RX0 yX0_openSum wsX0_openSum) := goodIn_app (goodIn_r _ [2, 3, 4, 5] (by rfl) (by rfl)) ggX0_isOpenFor_X0_openSum
set_option maxRecDepth 20000 in
theorem ggX0_allowsDiscount_X0_openSum : GoodIn wsX0_allowsDiscount wsX0_openSum := goodIn_r _ [7, 1, 8, 9, 10, 11, 12, 13, 14, 15, 16, 17, 18, 19, 20, 21, 22, 23] (by rfl) (by rfl)
set_option maxRecDepth 20000 in
theorem gX0_allowsDiscount_X0_openSum : GoodIn wsX0_allowsDiscount (wsV RX0 49 RX0 yX0_openSum wsX0_openSum) := goodIn_app (goodIn_r _ [3, 4, 5, 6] (by rfl) (by rfl)) ggX0_allowsDiscount_X0_openSum
set_option maxRecDepth 20000 in
theorem ggX0_dueOn_X0_openSum : GoodIn wsX0_dueOn wsX0_openSum := goodIn_r _ [6, 7, 8, 9, 10, 11, 17, 18, 19, 20, 21, 22, 23, 24, 25, 26, 27, 28] (by rfl) (by rfl)
set_option maxRecDepth 20000 in
theorem gX0_dueOn_X0_openSum : GoodIn wsX0_dueOn (wsV RX0 49 RX0 yX0_openSum wsX0_openSum) := goodIn_app (goodIn_r _ [2, 3, 4, 5] (by rfl) (by rfl)) ggX0_dueOn_X0_openSum
set_option maxRecDepth 20000 in
theorem ggX0_dueOn_X0_allowsDiscount : GoodIn wsX0_dueOn wsX0_allowsDiscount := goodIn_r _ [15, 7, 16, 2, 3, 4, 5, 6, 8, 9, 10, 11, 17, 18, 19, 20, 21, 22, 23, 24, 25, 26, 27, 28] (by rfl) (by rfl)
set_option maxRecDepth 20000 in
theorem gX0_dueOn_X0_allowsDiscount : GoodIn wsX0_dueOn (wsV RX0 53 RX0 yX0_allowsDiscount wsX0_allowsDiscount) := goodIn_app (goodIn_r _ [12, 13, 14, 5] (by rfl) (by rfl)) ggX0_dueOn_X0_allowsDiscount
set_option maxRecDepth 20000 in
theorem ggX0_customerNamedBy_X0_openSum : GoodIn wsX0_customerNamedBy wsX0_openSum := goodIn_r _ [8, 9, 10, 11, 12, 13, 14, 15, 16, 17, 18, 19, 20, 21, 22, 23, 24, 25] (by rfl) (by rfl)
set_option maxRecDepth 20000 in
theorem gX0_customerNamedBy_X0_openSum : GoodIn wsX0_customerNamedBy (wsV RX0 49 RX0 yX0_openSum wsX0_openSum) := goodIn_app (goodIn_r _ [4, 5, 6, 7] (by rfl) (by rfl)) ggX0_customerNamedBy_X0_openSum
set_option maxRecDepth 20000 in
theorem ggX0_takeDiscount_X0_allowsDiscount : GoodIn wsX0_takeDiscount wsX0_allowsDiscount := goodIn_r _ [8, 9, 10, 11, 12, 13, 7, 14, 15, 1, 16, 17, 18, 19, 20, 21, 22, 23, 24, 25, 26, 27, 28, 29] (by rfl) (by rfl)
set_option maxRecDepth 20000 in
theorem gX0_takeDiscount_X0_allowsDiscount : GoodIn wsX0_takeDiscount (wsV RX0 53 RX0 yX0_allowsDiscount wsX0_allowsDiscount) := goodIn_app (goodIn_r _ [4, 5, 6, 7] (by rfl) (by rfl)) ggX0_takeDiscount_X0_allowsDiscount
set_option maxRecDepth 20000 in
theorem ggX0_disputeRest_X0_openSum : GoodIn wsX0_disputeRest wsX0_openSum := goodIn_r _ [7, 8, 9, 10, 1, 11, 12, 13, 14, 15, 16, 17, 18, 19, 20, 21, 22, 23] (by rfl) (by rfl)
set_option maxRecDepth 20000 in
theorem gX0_disputeRest_X0_openSum : GoodIn wsX0_disputeRest (wsV RX0 49 RX0 yX0_openSum wsX0_openSum) := goodIn_app (goodIn_r _ [3, 4, 5, 6] (by rfl) (by rfl)) ggX0_disputeRest_X0_openSum
set_option maxRecDepth 20000 in
theorem ggX0_undo_X0_endDispute : GoodIn wsX0_undo wsX0_endDispute := goodIn_r _ [9, 10, 11, 4, 12, 13, 14, 15, 16, 17, 18, 19, 20, 21, 22, 23] (by rfl) (by rfl)
set_option maxRecDepth 20000 in
theorem gX0_undo_X0_endDispute : GoodIn wsX0_undo (wsV RX0 57 RX0 yX0_endDispute wsX0_endDispute) := goodIn_app (goodIn_r _ [5, 6, 7, 8] (by rfl) (by rfl)) ggX0_undo_X0_endDispute
set_option maxRecDepth 20000 in
theorem ggX1_choose_X1_chooseOne : GoodIn wsX1_choose wsX1_chooseOne := goodIn_r _ [5, 6, 7, 8, 9, 10, 4, 11, 12, 13, 22, 23, 24, 25] (by rfl) (by rfl)
set_option maxRecDepth 20000 in
theorem gX1_choose_X1_chooseOne : GoodIn wsX1_choose (wsV RX1 25 RX1 yX1_chooseOne wsX1_chooseOne) := goodIn_app (goodIn_r _ [1, 2, 3, 4] (by rfl) (by rfl)) ggX1_choose_X1_chooseOne
set_option maxRecDepth 20000 in
theorem ggX1_choose_X1_chooseTwo : GoodIn wsX1_choose wsX1_chooseTwo := goodIn_r _ [17, 12, 13, 6, 7, 8, 9, 10, 4, 11, 22, 23, 24, 25] (by rfl) (by rfl)
set_option maxRecDepth 20000 in
theorem gX1_choose_X1_chooseTwo : GoodIn wsX1_choose (wsV RX1 29 RX1 yX1_chooseTwo wsX1_chooseTwo) := goodIn_app (goodIn_r _ [14, 15, 16, 4] (by rfl) (by rfl)) ggX1_choose_X1_chooseTwo
set_option maxRecDepth 20000 in
theorem ggX1_choose_X1_chooseThree : GoodIn wsX1_choose wsX1_chooseThree := goodIn_r _ [21, 12, 13, 6, 7, 8, 9, 10, 4, 11, 22, 23, 24, 25] (by rfl) (by rfl)
set_option maxRecDepth 20000 in
theorem gX1_choose_X1_chooseThree : GoodIn wsX1_choose (wsV RX1 32 RX1 yX1_chooseThree wsX1_chooseThree) := goodIn_app (goodIn_r _ [18, 19, 20, 4] (by rfl) (by rfl)) ggX1_choose_X1_chooseThree
set_option maxRecDepth 20000 in
theorem ggX1_chooseOne_X1_find : GoodIn wsX1_chooseOne wsX1_find := goodIn_r _ [7, 8, 9, 10, 11, 12, 13] (by rfl) (by rfl)
set_option maxRecDepth 20000 in
theorem gX1_chooseOne_X1_find : GoodIn wsX1_chooseOne (wsV RX1 36 RX1 yX1_find wsX1_find) := goodIn_app (goodIn_r _ [3, 4, 5, 6] (by rfl) (by rfl)) ggX1_chooseOne_X1_find
set_option maxRecDepth 20000 in
theorem ggX1_chooseTwo_X1_find : GoodIn wsX1_chooseTwo wsX1_find := goodIn_r _ [9, 1, 2, 10, 11, 12, 13] (by rfl) (by rfl)
set_option maxRecDepth 20000 in
theorem gX1_chooseTwo_X1_find : GoodIn wsX1_chooseTwo (wsV RX1 36 RX1 yX1_find wsX1_find) := goodIn_app (goodIn_r _ [5, 6, 7, 8] (by rfl) (by rfl)) ggX1_chooseTwo_X1_find
set_option maxRecDepth 20000 in
theorem ggX1_chooseThree_X1_find : GoodIn wsX1_chooseThree wsX1_find := goodIn_r _ [9, 1, 2, 10, 11, 12, 13] (by rfl) (by rfl)
set_option maxRecDepth 20000 in
theorem gX1_chooseThree_X1_find : GoodIn wsX1_chooseThree (wsV RX1 36 RX1 yX1_find wsX1_find) := goodIn_app (goodIn_r _ [5, 6, 7, 8] (by rfl) (by rfl)) ggX1_chooseThree_X1_find
set_option maxRecDepth 20000 in
theorem ggX2_hasPaid_X2_cell : GoodIn wsX2_hasPaid wsX2_cell := goodIn_r _ [5] (by rfl) (by rfl)
set_option maxRecDepth 20000 in
theorem gX2_hasPaid_X2_cell : GoodIn wsX2_hasPaid (va_wsS RX2 41 yX2_cell wsX2_cell) := goodIn_app (goodIn_r _ [2, 3, 4] (by rfl) (by rfl)) ggX2_hasPaid_X2_cell
set_option maxRecDepth 20000 in
theorem ggX2_paidOf_X2_cell : GoodIn wsX2_paidOf wsX2_cell := goodIn_r _ [5] (by rfl) (by rfl)
set_option maxRecDepth 20000 in
theorem gX2_paidOf_X2_cell : GoodIn wsX2_paidOf (va_wsS RX2 41 yX2_cell wsX2_cell) := goodIn_app (goodIn_r _ [2, 3, 4] (by rfl) (by rfl)) ggX2_paidOf_X2_cell
set_option maxRecDepth 20000 in
theorem ggX2_addPayment_X2_cell : GoodIn wsX2_addPayment wsX2_cell := goodIn_r _ [8] (by rfl) (by rfl)
set_option maxRecDepth 20000 in
theorem gX2_addPayment_X2_cell : GoodIn wsX2_addPayment (va_wsS RX2 41 yX2_cell wsX2_cell) := goodIn_app (goodIn_r _ [5, 6, 7] (by rfl) (by rfl)) ggX2_addPayment_X2_cell
set_option maxRecDepth 20000 in
theorem ggX2_dropPayment_X2_cell : GoodIn wsX2_dropPayment wsX2_cell := goodIn_r _ [7] (by rfl) (by rfl)
set_option maxRecDepth 20000 in
theorem gX2_dropPayment_X2_cell : GoodIn wsX2_dropPayment (va_wsS RX2 41 yX2_cell wsX2_cell) := goodIn_app (goodIn_r _ [4, 5, 6] (by rfl) (by rfl)) ggX2_dropPayment_X2_cell
set_option maxRecDepth 20000 in
theorem ggX3_init_X0_init : GoodIn wsX3_init wsX0_init := goodIn_r _ [18, 19, 2, 3, 20, 21, 22, 23, 24, 25, 26, 27, 28, 29, 30, 31, 50, 51, 52, 53, 54, 55, 56, 57, 58, 59, 60, 61] (by rfl) (by rfl)
set_option maxRecDepth 20000 in
theorem ggX3_init_X2_init : GoodIn wsX3_init wsX2_init := goodIn_r _ [33, 34, 2, 3, 20, 35, 36, 37, 38, 39, 40, 41, 42, 43, 66, 67, 68, 69, 70, 71, 72, 73, 74] (by rfl) (by rfl)
set_option maxRecDepth 20000 in
theorem ggX3_init_X1_init : GoodIn wsX3_init wsX1_init := goodIn_r _ [45, 46, 2, 3, 20, 47, 48, 49, 75, 76, 77, 78] (by rfl) (by rfl)
set_option maxRecDepth 20000 in
theorem ggX3_bill_X3_requireCustomer : GoodIn wsX3_bill wsX3_requireCustomer := goodIn_ca (goodIn_r _ [10, 11, 12] (by rfl) (by rfl)) (goodIn_sub (fun _ h => List.mem_cons_of_mem _ (List.mem_append_left _ (List.mem_append_right _ h))) (by rfl))
set_option maxRecDepth 20000 in
theorem gX3_bill_X3_requireCustomer : GoodIn wsX3_bill (va_wsS RX3 34 yX3_requireCustomer wsX3_requireCustomer) := goodIn_app (goodIn_r _ [7, 8, 9] (by rfl) (by rfl)) ggX3_bill_X3_requireCustomer
set_option maxRecDepth 20000 in
theorem ggX3_bill_X3_requireWithin : GoodIn wsX3_bill wsX3_requireWithin := goodIn_ca (goodIn_r _ [15, 16, 17] (by rfl) (by rfl)) (goodIn_sub (fun _ h => List.mem_cons_of_mem _ (List.mem_append_right _ h)) (by rfl))
set_option maxRecDepth 20000 in
theorem gX3_bill_X3_requireWithin : GoodIn wsX3_bill (va_wsS RX3 39 yX3_requireWithin wsX3_requireWithin) := goodIn_app (goodIn_r _ [13, 14, 9] (by rfl) (by rfl)) ggX3_bill_X3_requireWithin
set_option maxRecDepth 20000 in
theorem ggX3_bill_X3_discountOf : GoodIn wsX3_bill wsX3_discountOf := goodIn_r _ [20, 21] (by rfl) (by rfl)
set_option maxRecDepth 20000 in
theorem gX3_bill_X3_discountOf : GoodIn wsX3_bill (va_wsS RX3 53 yX3_discountOf wsX3_discountOf) := goodIn_app (goodIn_r _ [18, 19, 9] (by rfl) (by rfl)) ggX3_bill_X3_discountOf
set_option maxRecDepth 20000 in
theorem ggX3_bill_X0_add : GoodIn wsX3_bill wsX0_add := goodIn_r _ [26, 27, 28, 29, 30, 31, 32, 33, 34, 39, 40, 41, 42, 43, 44, 45, 46, 47, 48, 49, 50] (by rfl) (by rfl)
set_option maxRecDepth 20000 in
theorem gX3_bill_X0_add : GoodIn wsX3_bill (wsV RX3 57 RX0 yX0_add wsX0_add) := goodIn_app (goodIn_r _ [22, 23, 24, 25] (by rfl) (by rfl)) ggX3_bill_X0_add
set_option maxRecDepth 20000 in
theorem ggX3_receive_X3_requireCustomer : GoodIn wsX3_receive wsX3_requireCustomer := goodIn_ca (goodIn_r _ [9, 10, 11] (by rfl) (by rfl)) (goodIn_sub (fun _ h => List.mem_cons_of_mem _ (List.mem_append_left _ (List.mem_append_right _ h))) (by rfl))
set_option maxRecDepth 20000 in
theorem gX3_receive_X3_requireCustomer : GoodIn wsX3_receive (va_wsS RX3 34 yX3_requireCustomer wsX3_requireCustomer) := goodIn_app (goodIn_r _ [6, 7, 8] (by rfl) (by rfl)) ggX3_receive_X3_requireCustomer
set_option maxRecDepth 20000 in
theorem ggX3_receive_X3_requireWithin : GoodIn wsX3_receive wsX3_requireWithin := goodIn_ca (goodIn_r _ [14, 15, 16] (by rfl) (by rfl)) (goodIn_sub (fun _ h => List.mem_cons_of_mem _ (List.mem_append_right _ h)) (by rfl))
set_option maxRecDepth 20000 in
theorem gX3_receive_X3_requireWithin : GoodIn wsX3_receive (va_wsS RX3 39 yX3_requireWithin wsX3_requireWithin) := goodIn_app (goodIn_r _ [12, 13, 8] (by rfl) (by rfl)) ggX3_receive_X3_requireWithin
set_option maxRecDepth 20000 in
theorem ggX3_receive_X2_add : GoodIn wsX3_receive wsX2_add := goodIn_r _ [21, 22, 23, 24, 25, 147, 148, 149, 150, 151, 152, 153, 154, 155] (by rfl) (by rfl)
set_option maxRecDepth 20000 in
theorem gX3_receive_X2_add : GoodIn wsX3_receive (wsV RX3 64 RX2 yX2_add wsX2_add) := goodIn_app (goodIn_r _ [17, 18, 19, 20] (by rfl) (by rfl)) ggX3_receive_X2_add
set_option maxRecDepth 20000 in
theorem ggX3_receive_X3_payNamedBills : GoodIn wsX3_receive wsX3_payNamedBills := goodIn_r _ [29, 4, 30, 31, 32, 33, 34, 35, 36, 37, 38, 39, 40, 41, 42, 43, 44, 45, 46, 47, 48, 49, 50, 51, 52, 53, 54, 55, 56, 57, 58, 8, 59, 60, 61, 62, 63, 64, 65, 66, 67, 68, 69, 70, 71, 72, 73, 74, 75, 76, 77, 78, 79, 20, 80, 81, 82, 83, 25, 84, 85, 86, 87, 88, 89, 90, 91, 143, 144, 145, 146, 147, 148, 149, 150, 151, 152, 153, 154, 155, 156, 157, 158, 159, 160, 161, 162, 163, 164, 165, 166, 167] (by rfl) (by rfl)
set_option maxRecDepth 20000 in
theorem gX3_receive_X3_payNamedBills : GoodIn wsX3_receive (wsV RX3 66 RX3 yX3_payNamedBills wsX3_payNamedBills) := goodIn_app (goodIn_r _ [26, 27, 28, 8] (by rfl) (by rfl)) ggX3_receive_X3_payNamedBills
set_option maxRecDepth 20000 in
theorem ggX3_receive_X3_payOtherBills : GoodIn wsX3_receive wsX3_payOtherBills := goodIn_r _ [95, 4, 30, 33, 96, 97, 98, 8, 99, 100, 101, 31, 32, 102, 103, 104, 105, 60, 106, 107, 108, 109, 110, 111, 112, 52, 53, 54, 38, 55, 42, 43, 44, 45, 46, 47, 48, 49, 50, 51, 62, 63, 64, 65, 66, 67, 68, 69, 70, 71, 113, 114, 115, 116, 117, 118, 119, 120, 121, 122, 123, 124, 125, 126, 127, 128, 129, 130, 131, 132, 133, 134, 135, 136, 137, 138, 56, 57, 58, 59, 61, 72, 73, 74, 75, 76, 77, 78, 79, 20, 80, 81, 82, 83, 25, 84, 85, 86, 139, 140, 141, 142, 143, 144, 145, 146, 147, 148, 149, 150, 151, 152, 153, 154, 155, 168, 169, 170, 171, 156, 157, 158, 159, 160, 161, 162, 163, 164, 165, 166, 167] (by rfl) (by rfl)
set_option maxRecDepth 20000 in
theorem gX3_receive_X3_payOtherBills : GoodIn wsX3_receive (wsV RX3 70 RX3 yX3_payOtherBills wsX3_payOtherBills) := goodIn_app (goodIn_r _ [92, 93, 94, 8] (by rfl) (by rfl)) ggX3_receive_X3_payOtherBills
set_option maxRecDepth 20000 in
theorem ggX3_assign_X3_requireReceipt : GoodIn wsX3_assign wsX3_requireReceipt := goodIn_ca (goodIn_r _ [10, 11, 12, 3, 13, 123, 124, 125, 126, 127, 128, 129, 130, 131, 132, 133, 134, 135] (by rfl) (by rfl)) (goodIn_sub (fun _ h => List.mem_cons_of_mem _ (List.mem_append_right _ h)) (by rfl))
set_option maxRecDepth 20000 in
theorem gX3_assign_X3_requireReceipt : GoodIn wsX3_assign (wsV RX3 73 RX3 yX3_requireReceipt wsX3_requireReceipt) := goodIn_app (goodIn_r _ [6, 7, 8, 9] (by rfl) (by rfl)) ggX3_assign_X3_requireReceipt
set_option maxRecDepth 20000 in
theorem ggX3_assign_X3_requireCustomer : GoodIn wsX3_assign wsX3_requireCustomer := goodIn_ca (goodIn_r _ [16, 11, 12] (by rfl) (by rfl)) (goodIn_sub (fun _ h => List.mem_cons_of_mem _ (List.mem_append_right _ h)) (by rfl))
set_option maxRecDepth 20000 in
theorem gX3_assign_X3_requireCustomer : GoodIn wsX3_assign (va_wsS RX3 34 yX3_requireCustomer wsX3_requireCustomer) := goodIn_app (goodIn_r _ [14, 15, 9] (by rfl) (by rfl)) ggX3_assign_X3_requireCustomer
set_option maxRecDepth 20000 in
theorem ggX3_assign_X3_requireNotBounced : GoodIn wsX3_assign wsX3_requireNotBounced := goodIn_ca (goodIn_r _ [20, 1, 2, 3, 21, 123, 124, 125, 126, 127, 128, 129, 130, 131, 132, 133, 134, 135] (by rfl) (by rfl)) (goodIn_sub (fun _ h => List.mem_cons_of_mem _ (List.mem_append_left _ (List.mem_append_right _ h))) (by rfl))
set_option maxRecDepth 20000 in
theorem gX3_assign_X3_requireNotBounced : GoodIn wsX3_assign (wsV RX3 76 RX3 yX3_requireNotBounced wsX3_requireNotBounced) := goodIn_app (goodIn_r _ [17, 18, 19, 9] (by rfl) (by rfl)) ggX3_assign_X3_requireNotBounced
set_option maxRecDepth 20000 in
theorem ggX3_assign_X3_payOtherBills : GoodIn wsX3_assign wsX3_payOtherBills := goodIn_r _ [25, 3, 4, 5, 26, 27, 28, 9, 29, 30, 31, 32, 33, 34, 35, 36, 37, 38, 39, 40, 41, 42, 43, 44, 45, 46, 47, 48, 49, 50, 51, 52, 53, 54, 55, 56, 57, 58, 59, 60, 61, 62, 63, 64, 65, 66, 67, 68, 69, 70, 71, 72, 73, 74, 75, 76, 77, 78, 79, 80, 81, 82, 83, 84, 85, 86, 87, 88, 89, 90, 91, 92, 93, 94, 95, 96, 97, 98, 99, 100, 101, 102, 103, 104, 105, 106, 107, 108, 109, 110, 111, 112, 113, 114, 115, 116, 117, 118, 119, 120, 121, 122, 123, 124, 125, 126, 127, 128, 129, 130, 131, 132, 133, 134, 135, 136, 137, 138, 139, 140, 141, 142, 143, 144, 145, 146, 147, 148, 149, 150, 151] (by rfl) (by rfl)
set_option maxRecDepth 20000 in
theorem gX3_assign_X3_payOtherBills : GoodIn wsX3_assign (wsV RX3 70 RX3 yX3_payOtherBills wsX3_payOtherBills) := goodIn_app (goodIn_r _ [22, 23, 24, 9] (by rfl) (by rfl)) ggX3_assign_X3_payOtherBills
set_option maxRecDepth 20000 in
theorem ggX3_apply_X3_requireReceipt : GoodIn wsX3_apply wsX3_requireReceipt := goodIn_ca (goodIn_r _ [10, 11, 12, 3, 13, 120, 121, 122, 123, 124, 125, 126, 127, 128, 129, 130, 131, 132] (by rfl) (by rfl)) (goodIn_sub (fun _ h => List.mem_cons_of_mem _ (List.mem_append_right _ h)) (by rfl))
set_option maxRecDepth 20000 in
theorem gX3_apply_X3_requireReceipt : GoodIn wsX3_apply (wsV RX3 73 RX3 yX3_requireReceipt wsX3_requireReceipt) := goodIn_app (goodIn_r _ [6, 7, 8, 9] (by rfl) (by rfl)) ggX3_apply_X3_requireReceipt
set_option maxRecDepth 20000 in
theorem ggX3_apply_X3_requireNotBounced : GoodIn wsX3_apply wsX3_requireNotBounced := goodIn_ca (goodIn_r _ [17, 1, 2, 3, 18, 120, 121, 122, 123, 124, 125, 126, 127, 128, 129, 130, 131, 132] (by rfl) (by rfl)) (goodIn_sub (fun _ h => List.mem_cons_of_mem _ (List.mem_append_left _ (List.mem_append_right _ h))) (by rfl))
set_option maxRecDepth 20000 in
theorem gX3_apply_X3_requireNotBounced : GoodIn wsX3_apply (wsV RX3 76 RX3 yX3_requireNotBounced wsX3_requireNotBounced) := goodIn_app (goodIn_r _ [14, 15, 16, 9] (by rfl) (by rfl)) ggX3_apply_X3_requireNotBounced
set_option maxRecDepth 20000 in
theorem ggX3_apply_X3_payOtherBills : GoodIn wsX3_apply wsX3_payOtherBills := goodIn_r _ [22, 3, 4, 5, 23, 24, 25, 9, 26, 27, 28, 29, 30, 31, 32, 33, 34, 35, 36, 37, 38, 39, 40, 41, 42, 43, 44, 45, 46, 47, 48, 49, 50, 51, 52, 53, 54, 55, 56, 57, 58, 59, 60, 61, 62, 63, 64, 65, 66, 67, 68, 69, 70, 71, 72, 73, 74, 75, 76, 77, 78, 79, 80, 81, 82, 83, 84, 85, 86, 87, 88, 89, 90, 91, 92, 93, 94, 95, 96, 97, 98, 99, 100, 101, 102, 103, 104, 105, 106, 107, 108, 109, 110, 111, 112, 113, 114, 115, 116, 117, 118, 119, 120, 121, 122, 123, 124, 125, 126, 127, 128, 129, 130, 131, 132, 133, 134, 135, 136, 137, 138, 139, 140, 141, 142, 143, 144, 145, 146, 147, 148] (by rfl) (by rfl)
set_option maxRecDepth 20000 in
theorem gX3_apply_X3_payOtherBills : GoodIn wsX3_apply (wsV RX3 70 RX3 yX3_payOtherBills wsX3_payOtherBills) := goodIn_app (goodIn_r _ [19, 20, 21, 9] (by rfl) (by rfl)) ggX3_apply_X3_payOtherBills
set_option maxRecDepth 20000 in
theorem ggX3_payBack_X3_requireReceipt : GoodIn wsX3_payBack wsX3_requireReceipt := goodIn_ca (goodIn_r _ [9, 10, 11, 3, 12, 25, 26, 27, 28, 29, 30, 31, 32, 33, 34, 35, 36, 37] (by rfl) (by rfl)) (goodIn_sub (fun _ h => List.mem_cons_of_mem _ (List.mem_append_right _ h)) (by rfl))
set_option maxRecDepth 20000 in
theorem gX3_payBack_X3_requireReceipt : GoodIn wsX3_payBack (wsV RX3 73 RX3 yX3_requireReceipt wsX3_requireReceipt) := goodIn_app (goodIn_r _ [5, 6, 7, 8] (by rfl) (by rfl)) ggX3_payBack_X3_requireReceipt
set_option maxRecDepth 20000 in
theorem ggX3_payBack_X3_requireNotBounced : GoodIn wsX3_payBack wsX3_requireNotBounced := goodIn_ca (goodIn_r _ [16, 1, 2, 3, 17, 25, 26, 27, 28, 29, 30, 31, 32, 33, 34, 35, 36, 37] (by rfl) (by rfl)) (goodIn_sub (fun _ h => List.mem_cons_of_mem _ (List.mem_append_left _ (List.mem_append_right _ h))) (by rfl))
set_option maxRecDepth 20000 in
theorem gX3_payBack_X3_requireNotBounced : GoodIn wsX3_payBack (wsV RX3 76 RX3 yX3_requireNotBounced wsX3_requireNotBounced) := goodIn_app (goodIn_r _ [13, 14, 15, 8] (by rfl) (by rfl)) ggX3_payBack_X3_requireNotBounced
set_option maxRecDepth 20000 in
theorem ggX3_payBack_X2_payBackRest : GoodIn wsX3_payBack wsX2_payBackRest := goodIn_r _ [22, 23, 24, 29, 30, 31, 32, 33, 34, 35, 36, 37] (by rfl) (by rfl)
set_option maxRecDepth 20000 in
theorem gX3_payBack_X2_payBackRest : GoodIn wsX3_payBack (wsV RX3 92 RX2 yX2_payBackRest wsX2_payBackRest) := goodIn_app (goodIn_r _ [18, 19, 20, 21] (by rfl) (by rfl)) ggX3_payBack_X2_payBackRest
set_option maxRecDepth 20000 in
theorem ggX3_bounce_X3_requireReceipt : GoodIn wsX3_bounce wsX3_requireReceipt := goodIn_ca (goodIn_r _ [11, 12, 13, 3, 14, 60, 61, 62, 63, 64, 65, 66, 67, 68, 69, 70, 71, 72] (by rfl) (by rfl)) (goodIn_sub (fun _ h => List.mem_cons_of_mem _ (List.mem_append_right _ h)) (by rfl))
set_option maxRecDepth 20000 in
theorem gX3_bounce_X3_requireReceipt : GoodIn wsX3_bounce (wsV RX3 73 RX3 yX3_requireReceipt wsX3_requireReceipt) := goodIn_app (goodIn_r _ [7, 8, 9, 10] (by rfl) (by rfl)) ggX3_bounce_X3_requireReceipt
set_option maxRecDepth 20000 in
theorem ggX3_bounce_X3_requireNotBounced : GoodIn wsX3_bounce wsX3_requireNotBounced := goodIn_ca (goodIn_r _ [18, 1, 2, 3, 19, 60, 61, 62, 63, 64, 65, 66, 67, 68, 69, 70, 71, 72] (by rfl) (by rfl)) (goodIn_sub (fun _ h => List.mem_cons_of_mem _ (List.mem_append_left _ (List.mem_append_right _ h))) (by rfl))
set_option maxRecDepth 20000 in
theorem gX3_bounce_X3_requireNotBounced : GoodIn wsX3_bounce (wsV RX3 76 RX3 yX3_requireNotBounced wsX3_requireNotBounced) := goodIn_app (goodIn_r _ [15, 16, 17, 10] (by rfl) (by rfl)) ggX3_bounce_X3_requireNotBounced
set_option maxRecDepth 20000 in
theorem ggX3_bounce_X2_hasPaid : GoodIn wsX3_bounce wsX2_hasPaid := goodIn_r _ [24, 25, 26, 27, 23, 28, 64, 65, 66, 67, 68, 69, 70, 71, 72] (by rfl) (by rfl)
set_option maxRecDepth 20000 in
theorem gX3_bounce_X2_hasPaid : GoodIn wsX3_bounce (wsV RX3 101 RX2 yX2_hasPaid wsX2_hasPaid) := goodIn_app (goodIn_r _ [20, 21, 22, 23] (by rfl) (by rfl)) ggX3_bounce_X2_hasPaid
set_option maxRecDepth 20000 in
theorem ggX3_bounce_X2_paidOf : GoodIn wsX3_bounce wsX2_paidOf := goodIn_r _ [32, 33, 26, 27, 23, 28, 64, 65, 66, 67, 68, 69, 70, 71, 72] (by rfl) (by rfl)
set_option maxRecDepth 20000 in
theorem gX3_bounce_X2_paidOf : GoodIn wsX3_bounce (wsV RX3 105 RX2 yX2_paidOf wsX2_paidOf) := goodIn_app (goodIn_r _ [29, 30, 31, 23] (by rfl) (by rfl)) ggX3_bounce_X2_paidOf
set_option maxRecDepth 20000 in
theorem ggX3_bounce_X0_undo : GoodIn wsX3_bounce wsX0_undo := goodIn_r _ [38, 39, 40, 41, 42, 43, 44, 45, 37, 46, 47, 48, 73, 74, 75, 76, 77, 78, 79, 80, 81, 82, 83, 84] (by rfl) (by rfl)
set_option maxRecDepth 20000 in
theorem gX3_bounce_X0_undo : GoodIn wsX3_bounce (wsV RX3 108 RX0 yX0_undo wsX0_undo) := goodIn_app (goodIn_r _ [34, 35, 36, 37] (by rfl) (by rfl)) ggX3_bounce_X0_undo
set_option maxRecDepth 20000 in
theorem ggX3_bounce_X2_dropPayment : GoodIn wsX3_bounce wsX2_dropPayment := goodIn_r _ [52, 53, 33, 25, 26, 27, 23, 28, 64, 65, 66, 67, 68, 69, 70, 71, 72] (by rfl) (by rfl)
set_option maxRecDepth 20000 in
theorem gX3_bounce_X2_dropPayment : GoodIn wsX3_bounce (wsV RX3 111 RX2 yX2_dropPayment wsX2_dropPayment) := goodIn_app (goodIn_r _ [49, 50, 51, 23] (by rfl) (by rfl)) ggX3_bounce_X2_dropPayment
set_option maxRecDepth 20000 in
theorem ggX3_bounce_X2_markBounced : GoodIn wsX3_bounce wsX2_markBounced := goodIn_r _ [57, 58, 59, 64, 65, 66, 67, 68, 69, 70, 71, 72] (by rfl) (by rfl)
set_option maxRecDepth 20000 in
theorem gX3_bounce_X2_markBounced : GoodIn wsX3_bounce (wsV RX3 114 RX2 yX2_markBounced wsX2_markBounced) := goodIn_app (goodIn_r _ [54, 55, 56, 23] (by rfl) (by rfl)) ggX3_bounce_X2_markBounced
set_option maxRecDepth 20000 in
theorem ggX3_settle_X3_requireBill : GoodIn wsX3_settle wsX3_requireBill := goodIn_ca (goodIn_r _ [9, 10, 11, 3, 12, 21, 22, 23, 24, 25, 26, 27, 28, 29, 30, 31, 32, 33, 34, 35, 36] (by rfl) (by rfl)) (goodIn_sub (fun _ h => List.mem_cons_of_mem _ (List.mem_append_right _ h)) (by rfl))
set_option maxRecDepth 20000 in
theorem gX3_settle_X3_requireBill : GoodIn wsX3_settle (wsV RX3 117 RX3 yX3_requireBill wsX3_requireBill) := goodIn_app (goodIn_r _ [5, 6, 7, 8] (by rfl) (by rfl)) ggX3_settle_X3_requireBill
set_option maxRecDepth 20000 in
theorem ggX3_settle_X0_endDispute : GoodIn wsX3_settle wsX0_endDispute := goodIn_r _ [17, 18, 19, 20, 25, 26, 27, 28, 29, 30, 31, 32, 33, 34, 35, 36] (by rfl) (by rfl)
set_option maxRecDepth 20000 in
theorem gX3_settle_X0_endDispute : GoodIn wsX3_settle (wsV RX3 125 RX0 yX0_endDispute wsX0_endDispute) := goodIn_app (goodIn_r _ [13, 14, 15, 16] (by rfl) (by rfl)) ggX3_settle_X0_endDispute
set_option maxRecDepth 20000 in
theorem ggX3_advance_X3_requireWithin : GoodIn wsX3_advance wsX3_requireWithin := goodIn_ca (goodIn_r _ [5, 6, 7] (by rfl) (by rfl)) (goodIn_sub (fun _ h => List.mem_cons_of_mem _ (List.mem_append_right _ h)) (by rfl))
set_option maxRecDepth 20000 in
theorem gX3_advance_X3_requireWithin : GoodIn wsX3_advance (va_wsS RX3 39 yX3_requireWithin wsX3_requireWithin) := goodIn_app (goodIn_r _ [2, 3, 4] (by rfl) (by rfl)) ggX3_advance_X3_requireWithin
set_option maxRecDepth 20000 in
theorem ggX3_open_X3_requireBill : GoodIn wsX3_open wsX3_requireBill := goodIn_ca (goodIn_r _ [6, 7, 8, 1, 9, 20, 21, 22, 23, 24, 25, 26, 27, 28, 29, 30, 31, 32, 33, 34, 35] (by rfl) (by rfl)) (goodIn_sub (fun _ h => List.mem_cons_of_mem _ (List.mem_append_right _ h)) (by rfl))
set_option maxRecDepth 20000 in
theorem gX3_open_X3_requireBill : GoodIn wsX3_open (wsV RX3 117 RX3 yX3_requireBill wsX3_requireBill) := goodIn_app (goodIn_r _ [2, 3, 4, 5] (by rfl) (by rfl)) ggX3_open_X3_requireBill
set_option maxRecDepth 20000 in
theorem ggX3_open_X0_openSum : GoodIn wsX3_open wsX0_openSum := goodIn_r _ [14, 15, 16, 17, 18, 19, 24, 25, 26, 27, 28, 29, 30, 31, 32, 33, 34, 35] (by rfl) (by rfl)
set_option maxRecDepth 20000 in
theorem gX3_open_X0_openSum : GoodIn wsX3_open (wsV RX3 129 RX0 yX0_openSum wsX0_openSum) := goodIn_app (goodIn_r _ [10, 11, 12, 13] (by rfl) (by rfl)) ggX3_open_X0_openSum
set_option maxRecDepth 20000 in
theorem ggX3_due_X3_requireBill : GoodIn wsX3_due wsX3_requireBill := goodIn_ca (goodIn_r _ [7, 8, 9, 1, 10, 31, 32, 33, 34, 35, 36, 37, 38, 39, 40, 41, 42, 43, 44, 45, 46] (by rfl) (by rfl)) (goodIn_sub (fun _ h => List.mem_cons_of_mem _ (List.mem_append_right _ h)) (by rfl))
set_option maxRecDepth 20000 in
theorem gX3_due_X3_requireBill : GoodIn wsX3_due (wsV RX3 117 RX3 yX3_requireBill wsX3_requireBill) := goodIn_app (goodIn_r _ [3, 4, 5, 6] (by rfl) (by rfl)) ggX3_due_X3_requireBill
set_option maxRecDepth 20000 in
theorem ggX3_due_X0_dueOn : GoodIn wsX3_due wsX0_dueOn := goodIn_r _ [15, 16, 17, 18, 19, 14, 20, 21, 22, 23, 24, 25, 26, 27, 28, 29, 30, 35, 36, 37, 38, 39, 40, 41, 42, 43, 44, 45, 46] (by rfl) (by rfl)
set_option maxRecDepth 20000 in
theorem gX3_due_X0_dueOn : GoodIn wsX3_due (wsV RX3 132 RX0 yX0_dueOn wsX0_dueOn) := goodIn_app (goodIn_r _ [11, 12, 13, 14] (by rfl) (by rfl)) ggX3_due_X0_dueOn
set_option maxRecDepth 20000 in
theorem ggX3_paid_X3_requireBill : GoodIn wsX3_paid wsX3_requireBill := goodIn_ca (goodIn_r _ [7, 8, 9, 1, 10, 11, 12, 13, 14, 15, 16, 17, 18, 19, 20, 21, 22, 23, 24, 25, 26] (by rfl) (by rfl)) (goodIn_sub (fun _ h => List.mem_cons_of_mem _ (List.mem_append_right _ h)) (by rfl))
set_option maxRecDepth 20000 in
theorem gX3_paid_X3_requireBill : GoodIn wsX3_paid (wsV RX3 117 RX3 yX3_requireBill wsX3_requireBill) := goodIn_app (goodIn_r _ [3, 4, 5, 6] (by rfl) (by rfl)) ggX3_paid_X3_requireBill
set_option maxRecDepth 20000 in
theorem ggX3_taken_X3_requireBill : GoodIn wsX3_taken wsX3_requireBill := goodIn_ca (goodIn_r _ [7, 8, 9, 1, 10, 11, 12, 13, 14, 15, 16, 17, 18, 19, 20, 21, 22, 23, 24, 25, 26] (by rfl) (by rfl)) (goodIn_sub (fun _ h => List.mem_cons_of_mem _ (List.mem_append_right _ h)) (by rfl))
set_option maxRecDepth 20000 in
theorem gX3_taken_X3_requireBill : GoodIn wsX3_taken (wsV RX3 117 RX3 yX3_requireBill wsX3_requireBill) := goodIn_app (goodIn_r _ [3, 4, 5, 6] (by rfl) (by rfl)) ggX3_taken_X3_requireBill
set_option maxRecDepth 20000 in
theorem ggX3_disputed_X3_requireBill : GoodIn wsX3_disputed wsX3_requireBill := goodIn_ca (goodIn_r _ [7, 8, 9, 1, 10, 11, 12, 13, 14, 15, 16, 17, 18, 19, 20, 21, 22, 23, 24, 25, 26] (by rfl) (by rfl)) (goodIn_sub (fun _ h => List.mem_cons_of_mem _ (List.mem_append_right _ h)) (by rfl))
set_option maxRecDepth 20000 in
theorem gX3_disputed_X3_requireBill : GoodIn wsX3_disputed (wsV RX3 117 RX3 yX3_requireBill wsX3_requireBill) := goodIn_app (goodIn_r _ [3, 4, 5, 6] (by rfl) (by rfl)) ggX3_disputed_X3_requireBill
set_option maxRecDepth 20000 in
theorem ggX3_writtenOff_X3_requireBill : GoodIn wsX3_writtenOff wsX3_requireBill := goodIn_ca (goodIn_r _ [7, 8, 9, 1, 10, 11, 12, 13, 14, 15, 16, 17, 18, 19, 20, 21, 22, 23, 24, 25, 26] (by rfl) (by rfl)) (goodIn_sub (fun _ h => List.mem_cons_of_mem _ (List.mem_append_right _ h)) (by rfl))
set_option maxRecDepth 20000 in
theorem gX3_writtenOff_X3_requireBill : GoodIn wsX3_writtenOff (wsV RX3 117 RX3 yX3_requireBill wsX3_requireBill) := goodIn_app (goodIn_r _ [3, 4, 5, 6] (by rfl) (by rfl)) ggX3_writtenOff_X3_requireBill
set_option maxRecDepth 20000 in
theorem ggX3_openOf_X3_requireCustomer : GoodIn wsX3_openOf wsX3_requireCustomer := goodIn_ca (goodIn_r _ [7, 8, 9] (by rfl) (by rfl)) (goodIn_sub (fun _ h => List.mem_cons_of_mem _ (List.mem_append_right _ h)) (by rfl))
set_option maxRecDepth 20000 in
theorem gX3_openOf_X3_requireCustomer : GoodIn wsX3_openOf (va_wsS RX3 34 yX3_requireCustomer wsX3_requireCustomer) := goodIn_app (goodIn_r _ [4, 5, 6] (by rfl) (by rfl)) ggX3_openOf_X3_requireCustomer
set_option maxRecDepth 20000 in
theorem ggX3_openOf_X0_openSum : GoodIn wsX3_openOf wsX0_openSum := goodIn_r _ [14, 15, 16, 17, 18, 19, 24, 25, 26, 27, 28, 29, 30, 31, 32, 33, 34, 35] (by rfl) (by rfl)
set_option maxRecDepth 20000 in
theorem gX3_openOf_X0_openSum : GoodIn wsX3_openOf (wsV RX3 129 RX0 yX0_openSum wsX0_openSum) := goodIn_app (goodIn_r _ [10, 11, 12, 13] (by rfl) (by rfl)) ggX3_openOf_X0_openSum
set_option maxRecDepth 20000 in
theorem ggX3_setFor_X3_requireCustomer : GoodIn wsX3_setFor wsX3_requireCustomer := goodIn_ca (goodIn_r _ [10, 1, 2] (by rfl) (by rfl)) (goodIn_sub (fun _ h => List.mem_cons_of_mem _ (List.mem_append_left _ (List.mem_append_right _ h))) (by rfl))
set_option maxRecDepth 20000 in
theorem gX3_setFor_X3_requireCustomer : GoodIn wsX3_setFor (va_wsS RX3 34 yX3_requireCustomer wsX3_requireCustomer) := goodIn_app (goodIn_r _ [7, 8, 9] (by rfl) (by rfl)) ggX3_setFor_X3_requireCustomer
set_option maxRecDepth 20000 in
theorem ggX3_setFor_X3_chooseExactSet : GoodIn wsX3_setFor wsX3_chooseExactSet := goodIn_r _ [14, 5, 15, 16, 17, 18, 19, 20, 21, 22, 23, 24, 25, 26, 27, 28, 29, 30, 31, 32, 33, 34, 35, 36, 37, 38, 39, 40, 41, 42, 43, 44, 45, 46, 47, 48, 49, 50, 51, 52, 53, 54, 55, 56, 57, 58, 59, 60, 61, 62, 63, 64, 65, 66, 67, 68, 69, 70, 71, 72, 73, 74, 75, 76, 77, 78, 79, 84, 85, 86, 87, 88, 89, 90, 91, 92, 93, 94, 95, 80, 81, 82, 83] (by rfl) (by rfl)
set_option maxRecDepth 20000 in
theorem gX3_setFor_X3_chooseExactSet : GoodIn wsX3_setFor (wsV RX3 155 RX3 yX3_chooseExactSet wsX3_chooseExactSet) := goodIn_app (goodIn_r _ [11, 12, 13, 9] (by rfl) (by rfl)) ggX3_setFor_X3_chooseExactSet
set_option maxRecDepth 20000 in
theorem ggX3_customerOf_X3_requireReceipt : GoodIn wsX3_customerOf wsX3_requireReceipt := goodIn_ca (goodIn_r _ [7, 8, 9, 1, 10, 11, 12, 13, 14, 15, 16, 17, 18, 19, 20, 21, 22, 23] (by rfl) (by rfl)) (goodIn_sub (fun _ h => List.mem_cons_of_mem _ (List.mem_append_right _ h)) (by rfl))
set_option maxRecDepth 20000 in
theorem gX3_customerOf_X3_requireReceipt : GoodIn wsX3_customerOf (wsV RX3 73 RX3 yX3_requireReceipt wsX3_requireReceipt) := goodIn_app (goodIn_r _ [3, 4, 5, 6] (by rfl) (by rfl)) ggX3_customerOf_X3_requireReceipt
set_option maxRecDepth 20000 in
theorem ggX3_appliedTo_X3_requireReceipt : GoodIn wsX3_appliedTo wsX3_requireReceipt := goodIn_ca (goodIn_r _ [6, 7, 8, 1, 9, 25, 26, 27, 28, 29, 30, 31, 32, 33, 34, 35, 36, 37] (by rfl) (by rfl)) (goodIn_sub (fun _ h => List.mem_cons_of_mem _ (List.mem_append_right _ h)) (by rfl))
set_option maxRecDepth 20000 in
theorem gX3_appliedTo_X3_requireReceipt : GoodIn wsX3_appliedTo (wsV RX3 73 RX3 yX3_requireReceipt wsX3_requireReceipt) := goodIn_app (goodIn_r _ [2, 3, 4, 5] (by rfl) (by rfl)) ggX3_appliedTo_X3_requireReceipt
set_option maxRecDepth 20000 in
theorem ggX3_appliedTo_X3_requireBill : GoodIn wsX3_appliedTo wsX3_requireBill := goodIn_ca (goodIn_r _ [13, 7, 8, 14, 15, 25, 26, 27, 28, 38, 39, 40, 41, 42, 43, 44, 45, 46, 47, 48, 49] (by rfl) (by rfl)) (goodIn_sub (fun _ h => List.mem_cons_of_mem _ (List.mem_append_right _ h)) (by rfl))
set_option maxRecDepth 20000 in
theorem gX3_appliedTo_X3_requireBill : GoodIn wsX3_appliedTo (wsV RX3 117 RX3 yX3_requireBill wsX3_requireBill) := goodIn_app (goodIn_r _ [10, 11, 12, 5] (by rfl) (by rfl)) ggX3_appliedTo_X3_requireBill
set_option maxRecDepth 20000 in
theorem ggX3_appliedTo_X2_paidOf : GoodIn wsX3_appliedTo wsX2_paidOf := goodIn_r _ [20, 21, 22, 23, 19, 24, 29, 30, 31, 32, 33, 34, 35, 36, 37] (by rfl) (by rfl)
set_option maxRecDepth 20000 in
theorem gX3_appliedTo_X2_paidOf : GoodIn wsX3_appliedTo (wsV RX3 105 RX2 yX2_paidOf wsX2_paidOf) := goodIn_app (goodIn_r _ [16, 17, 18, 19] (by rfl) (by rfl)) ggX3_appliedTo_X2_paidOf
set_option maxRecDepth 20000 in
theorem ggX3_unapplied_X3_requireReceipt : GoodIn wsX3_unapplied wsX3_requireReceipt := goodIn_ca (goodIn_r _ [7, 8, 9, 1, 10, 11, 12, 13, 14, 15, 16, 17, 18, 19, 20, 21, 22, 23] (by rfl) (by rfl)) (goodIn_sub (fun _ h => List.mem_cons_of_mem _ (List.mem_append_right _ h)) (by rfl))
set_option maxRecDepth 20000 in
theorem gX3_unapplied_X3_requireReceipt : GoodIn wsX3_unapplied (wsV RX3 73 RX3 yX3_requireReceipt wsX3_requireReceipt) := goodIn_app (goodIn_r _ [3, 4, 5, 6] (by rfl) (by rfl)) ggX3_unapplied_X3_requireReceipt
set_option maxRecDepth 20000 in
theorem ggX3_hasBounced_X3_requireReceipt : GoodIn wsX3_hasBounced wsX3_requireReceipt := goodIn_ca (goodIn_r _ [7, 8, 9, 1, 10, 11, 12, 13, 14, 15, 16, 17, 18, 19, 20, 21, 22, 23] (by rfl) (by rfl)) (goodIn_sub (fun _ h => List.mem_cons_of_mem _ (List.mem_append_right _ h)) (by rfl))
set_option maxRecDepth 20000 in
theorem gX3_hasBounced_X3_requireReceipt : GoodIn wsX3_hasBounced (wsV RX3 73 RX3 yX3_requireReceipt wsX3_requireReceipt) := goodIn_app (goodIn_r _ [3, 4, 5, 6] (by rfl) (by rfl)) ggX3_hasBounced_X3_requireReceipt
set_option maxRecDepth 20000 in
theorem ggX3_received_X2_totalOf : GoodIn wsX3_received wsX2_totalOf := goodIn_r _ [7, 8, 13, 14, 15, 16, 17, 18, 19, 20, 21] (by rfl) (by rfl)
set_option maxRecDepth 20000 in
theorem gX3_received_X2_totalOf : GoodIn wsX3_received (wsV RX3 168 RX2 yX2_totalOf wsX2_totalOf) := goodIn_app (goodIn_r _ [3, 4, 5, 6] (by rfl) (by rfl)) ggX3_received_X2_totalOf
set_option maxRecDepth 20000 in
theorem ggX3_applied_X2_totalOf : GoodIn wsX3_applied wsX2_totalOf := goodIn_r _ [7, 8, 13, 14, 15, 16, 17, 18, 19, 20, 21] (by rfl) (by rfl)
set_option maxRecDepth 20000 in
theorem gX3_applied_X2_totalOf : GoodIn wsX3_applied (wsV RX3 168 RX2 yX2_totalOf wsX2_totalOf) := goodIn_app (goodIn_r _ [3, 4, 5, 6] (by rfl) (by rfl)) ggX3_applied_X2_totalOf
set_option maxRecDepth 20000 in
theorem ggX3_allUnapplied_X2_totalOf : GoodIn wsX3_allUnapplied wsX2_totalOf := goodIn_r _ [7, 8, 13, 14, 15, 16, 17, 18, 19, 20, 21] (by rfl) (by rfl)
set_option maxRecDepth 20000 in
theorem gX3_allUnapplied_X2_totalOf : GoodIn wsX3_allUnapplied (wsV RX3 168 RX2 yX2_totalOf wsX2_totalOf) := goodIn_app (goodIn_r _ [3, 4, 5, 6] (by rfl) (by rfl)) ggX3_allUnapplied_X2_totalOf
set_option maxRecDepth 20000 in
theorem ggX3_paidBack_X2_totalOf : GoodIn wsX3_paidBack wsX2_totalOf := goodIn_r _ [7, 8, 13, 14, 15, 16, 17, 18, 19, 20, 21] (by rfl) (by rfl)
set_option maxRecDepth 20000 in
theorem gX3_paidBack_X2_totalOf : GoodIn wsX3_paidBack (wsV RX3 168 RX2 yX2_totalOf wsX2_totalOf) := goodIn_app (goodIn_r _ [3, 4, 5, 6] (by rfl) (by rfl)) ggX3_paidBack_X2_totalOf
set_option maxRecDepth 20000 in
theorem ggX3_bounced_X2_bouncedTotal : GoodIn wsX3_bounced wsX2_bouncedTotal := goodIn_r _ [6, 7, 8, 9, 14, 15, 16, 17, 18, 19, 20, 21, 22] (by rfl) (by rfl)
set_option maxRecDepth 20000 in
theorem gX3_bounced_X2_bouncedTotal : GoodIn wsX3_bounced (wsV RX3 175 RX2 yX2_bouncedTotal wsX2_bouncedTotal) := goodIn_app (goodIn_r _ [2, 3, 4, 5] (by rfl) (by rfl)) ggX3_bounced_X2_bouncedTotal
set_option maxRecDepth 20000 in
theorem ggX3_payNamedBills_X0_customerNamedBy : GoodIn wsX3_payNamedBills wsX0_customerNamedBy := goodIn_r _ [11, 12, 13, 14, 15, 16, 17, 10, 18, 19, 20, 21, 22, 23, 80, 81, 82, 83, 84, 85, 86, 87, 88, 89, 90, 91] (by rfl) (by rfl)
set_option maxRecDepth 20000 in
theorem gX3_payNamedBills_X0_customerNamedBy : GoodIn wsX3_payNamedBills (wsV RX3 179 RX0 yX0_customerNamedBy wsX0_customerNamedBy) := goodIn_app (goodIn_r _ [7, 8, 9, 10] (by rfl) (by rfl)) ggX3_payNamedBills_X0_customerNamedBy
set_option maxRecDepth 20000 in
theorem ggX3_payNamedBills_X0_isOpenFor : GoodIn wsX3_payNamedBills wsX0_isOpenFor := goodIn_r _ [27, 14, 15, 16, 17, 10, 18, 19, 20, 21, 22, 23, 80, 81, 82, 83, 84, 85, 86, 87, 88, 89, 90, 91] (by rfl) (by rfl)
set_option maxRecDepth 20000 in
theorem gX3_payNamedBills_X0_isOpenFor : GoodIn wsX3_payNamedBills (wsV RX3 182 RX0 yX0_isOpenFor wsX0_isOpenFor) := goodIn_app (goodIn_r _ [24, 25, 26, 10] (by rfl) (by rfl)) ggX3_payNamedBills_X0_isOpenFor
set_option maxRecDepth 20000 in
theorem ggX3_payNamedBills_X3_payBill : GoodIn wsX3_payNamedBills wsX3_payBill := goodIn_r _ [32, 3, 33, 1, 5, 34, 35, 36, 37, 10, 38, 39, 15, 16, 17, 18, 19, 20, 21, 22, 23, 40, 41, 42, 43, 44, 45, 46, 47, 48, 49, 50, 51, 52, 53, 54, 55, 56, 57, 58, 59, 60, 61, 67, 68, 69, 70, 71, 72, 73, 74, 75, 76, 77, 78, 79, 80, 81, 82, 83, 84, 85, 86, 87, 88, 89, 90, 91] (by rfl) (by rfl)
set_option maxRecDepth 20000 in
theorem gX3_payNamedBills_X3_payBill : GoodIn wsX3_payNamedBills (wsV RX3 188 RX3 yX3_payBill wsX3_payBill) := goodIn_app (goodIn_r _ [28, 29, 30, 31] (by rfl) (by rfl)) ggX3_payNamedBills_X3_payBill
set_option maxRecDepth 20000 in
theorem ggX3_payNamedBills_X0_disputeRest : GoodIn wsX3_payNamedBills wsX0_disputeRest := goodIn_r _ [65, 22, 66, 15, 16, 17, 10, 18, 19, 20, 21, 23, 80, 81, 82, 83, 84, 85, 86, 87, 88, 89, 90, 91] (by rfl) (by rfl)
set_option maxRecDepth 20000 in
theorem gX3_payNamedBills_X0_disputeRest : GoodIn wsX3_payNamedBills (wsV RX3 191 RX0 yX0_disputeRest wsX0_disputeRest) := goodIn_app (goodIn_r _ [62, 63, 64, 10] (by rfl) (by rfl)) ggX3_payNamedBills_X0_disputeRest
set_option maxRecDepth 20000 in
theorem ggX3_payOtherBills_X3_payExactSet : GoodIn wsX3_payOtherBills wsX3_payExactSet := goodIn_r _ [8, 1, 2, 3, 9, 10, 11, 12, 13, 14, 15, 7, 16, 17, 18, 19, 20, 21, 22, 23, 24, 25, 26, 27, 28, 29, 30, 31, 32, 33, 34, 35, 36, 37, 38, 39, 40, 41, 42, 43, 44, 45, 46, 47, 48, 49, 50, 51, 52, 53, 54, 55, 56, 57, 58, 59, 60, 61, 62, 63, 64, 65, 66, 67, 68, 69, 70, 71, 72, 73, 74, 75, 76, 77, 78, 79, 80, 81, 82, 83, 84, 85, 86, 87, 88, 89, 90, 91, 92, 93, 94, 95, 96, 97, 102, 103, 104, 105, 106, 107, 108, 109, 110, 111, 112, 113, 114, 115, 116, 117, 118, 119, 120, 121, 122, 123, 124, 125, 126, 127, 128, 129, 130] (by rfl) (by rfl)
set_option maxRecDepth 20000 in
theorem gX3_payOtherBills_X3_payExactSet : GoodIn wsX3_payOtherBills (wsV RX3 194 RX3 yX3_payExactSet wsX3_payExactSet) := goodIn_app (goodIn_r _ [4, 5, 6, 7] (by rfl) (by rfl)) ggX3_payOtherBills_X3_payExactSet
set_option maxRecDepth 20000 in
theorem ggX3_payOtherBills_X3_payOldestBills : GoodIn wsX3_payOtherBills wsX3_payOldestBills := goodIn_r _ [101, 1, 2, 11, 12, 3, 25, 26, 27, 28, 29, 30, 31, 32, 33, 34, 35, 36, 37, 38, 39, 76, 77, 78, 7, 79, 17, 80, 40, 41, 42, 43, 44, 45, 46, 47, 48, 49, 81, 82, 83, 84, 85, 86, 87, 88, 89, 90, 91, 92, 93, 94, 95, 96, 97, 102, 103, 104, 105, 106, 107, 108, 109, 110, 111, 112, 113, 114, 119, 120, 121, 122, 123, 124, 125, 126, 127, 128, 129, 130] (by rfl) (by rfl)
set_option maxRecDepth 20000 in
theorem gX3_payOtherBills_X3_payOldestBills : GoodIn wsX3_payOtherBills (wsV RX3 197 RX3 yX3_payOldestBills wsX3_payOldestBills) := goodIn_app (goodIn_r _ [98, 99, 100, 7] (by rfl) (by rfl)) ggX3_payOtherBills_X3_payOldestBills
set_option maxRecDepth 20000 in
theorem ggX3_payExactSet_X3_chooseExactSet : GoodIn wsX3_payExactSet wsX3_chooseExactSet := goodIn_r _ [12, 4, 6, 7, 13, 14, 15, 16, 17, 18, 19, 20, 21, 22, 23, 24, 25, 26, 27, 28, 29, 30, 31, 32, 33, 34, 35, 36, 37, 38, 39, 40, 41, 42, 43, 44, 45, 46, 47, 48, 49, 50, 51, 52, 53, 54, 55, 56, 57, 58, 59, 60, 61, 62, 63, 64, 65, 66, 67, 68, 69, 70, 71, 94, 95, 96, 97, 111, 112, 113, 114, 115, 116, 117, 118, 119, 120, 121, 122, 107, 108, 109, 110] (by rfl) (by rfl)
set_option maxRecDepth 20000 in
theorem gX3_payExactSet_X3_chooseExactSet : GoodIn wsX3_payExactSet (wsV RX3 155 RX3 yX3_chooseExactSet wsX3_chooseExactSet) := goodIn_app (goodIn_r _ [8, 9, 10, 11] (by rfl) (by rfl)) ggX3_payExactSet_X3_chooseExactSet
set_option maxRecDepth 20000 in
theorem ggX3_payExactSet_X3_payBill : GoodIn wsX3_payExactSet wsX3_payBill := goodIn_r _ [75, 6, 13, 1, 3, 76, 36, 37, 38, 24, 39, 40, 27, 28, 29, 30, 31, 32, 33, 34, 35, 41, 42, 43, 44, 45, 77, 78, 79, 80, 81, 82, 83, 84, 85, 86, 87, 88, 89, 90, 91, 92, 93, 94, 95, 96, 97, 98, 99, 100, 101, 102, 103, 104, 105, 106, 111, 112, 113, 114, 115, 116, 117, 118, 119, 120, 121, 122] (by rfl) (by rfl)
set_option maxRecDepth 20000 in
theorem gX3_payExactSet_X3_payBill : GoodIn wsX3_payExactSet (wsV RX3 188 RX3 yX3_payBill wsX3_payBill) := goodIn_app (goodIn_r _ [72, 73, 74, 11] (by rfl) (by rfl)) ggX3_payExactSet_X3_payBill
set_option maxRecDepth 20000 in
theorem ggX3_payOldestBills_X0_isOpenFor : GoodIn wsX3_payOldestBills wsX0_isOpenFor := goodIn_r _ [10, 11, 12, 13, 14, 9, 15, 16, 17, 18, 19, 20, 68, 69, 70, 71, 72, 73, 74, 75, 76, 77, 78, 79] (by rfl) (by rfl)
set_option maxRecDepth 20000 in
theorem gX3_payOldestBills_X0_isOpenFor : GoodIn wsX3_payOldestBills (wsV RX3 182 RX0 yX0_isOpenFor wsX0_isOpenFor) := goodIn_app (goodIn_r _ [6, 7, 8, 9] (by rfl) (by rfl)) ggX3_payOldestBills_X0_isOpenFor
set_option maxRecDepth 20000 in
theorem ggX3_payOldestBills_X3_payBill : GoodIn wsX3_payOldestBills wsX3_payBill := goodIn_r _ [25, 3, 26, 1, 5, 27, 28, 29, 30, 9, 31, 32, 12, 13, 14, 15, 16, 17, 18, 19, 20, 33, 34, 35, 36, 37, 38, 39, 40, 41, 42, 43, 44, 45, 46, 47, 48, 49, 50, 51, 52, 53, 54, 55, 56, 57, 58, 59, 60, 61, 62, 63, 64, 65, 66, 67, 68, 69, 70, 71, 72, 73, 74, 75, 76, 77, 78, 79] (by rfl) (by rfl)
set_option maxRecDepth 20000 in
theorem gX3_payOldestBills_X3_payBill : GoodIn wsX3_payOldestBills (wsV RX3 188 RX3 yX3_payBill wsX3_payBill) := goodIn_app (goodIn_r _ [21, 22, 23, 24] (by rfl) (by rfl)) ggX3_payOldestBills_X3_payBill
set_option maxRecDepth 20000 in
theorem ggX3_payBill_X0_dueOn : GoodIn wsX3_payBill wsX0_dueOn := goodIn_r _ [10, 11, 12, 13, 14, 9, 15, 16, 17, 18, 19, 20, 21, 22, 23, 24, 25, 56, 57, 58, 59, 60, 61, 62, 63, 64, 65, 66, 67] (by rfl) (by rfl)
set_option maxRecDepth 20000 in
theorem gX3_payBill_X0_dueOn : GoodIn wsX3_payBill (wsV RX3 132 RX0 yX0_dueOn wsX0_dueOn) := goodIn_app (goodIn_r _ [6, 7, 8, 9] (by rfl) (by rfl)) ggX3_payBill_X0_dueOn
set_option maxRecDepth 20000 in
theorem ggX3_payBill_X0_takeDiscount : GoodIn wsX3_payBill wsX0_takeDiscount := goodIn_r _ [29, 18, 11, 30, 21, 22, 23, 9, 24, 16, 25, 12, 13, 14, 15, 17, 19, 20, 56, 57, 58, 59, 60, 61, 62, 63, 64, 65, 66, 67] (by rfl) (by rfl)
set_option maxRecDepth 20000 in
theorem gX3_payBill_X0_takeDiscount : GoodIn wsX3_payBill (wsV RX3 200 RX0 yX0_takeDiscount wsX0_takeDiscount) := goodIn_app (goodIn_r _ [26, 27, 28, 9] (by rfl) (by rfl)) ggX3_payBill_X0_takeDiscount
set_option maxRecDepth 20000 in
theorem ggX3_payBill_X2_addPayment : GoodIn wsX3_payBill wsX2_addPayment := goodIn_r _ [35, 36, 37, 38, 39, 40, 41, 34, 42, 47, 48, 49, 50, 51, 52, 53, 54, 55] (by rfl) (by rfl)
set_option maxRecDepth 20000 in
theorem gX3_payBill_X2_addPayment : GoodIn wsX3_payBill (wsV RX3 203 RX2 yX2_addPayment wsX2_addPayment) := goodIn_app (goodIn_r _ [31, 32, 33, 34] (by rfl) (by rfl)) ggX3_payBill_X2_addPayment
set_option maxRecDepth 20000 in
theorem ggX3_chooseExactSet_X1_clear : GoodIn wsX3_chooseExactSet wsX1_clear := goodIn_r _ [9, 10, 11, 79, 80, 81, 82] (by rfl) (by rfl)
set_option maxRecDepth 20000 in
theorem gX3_chooseExactSet_X1_clear : GoodIn wsX3_chooseExactSet (wsV RX3 206 RX1 yX1_clear wsX1_clear) := goodIn_app (goodIn_r _ [5, 6, 7, 8] (by rfl) (by rfl)) ggX3_chooseExactSet_X1_clear
set_option maxRecDepth 20000 in
theorem ggX3_chooseExactSet_X0_isOpenFor : GoodIn wsX3_chooseExactSet wsX0_isOpenFor := goodIn_r _ [16, 17, 18, 19, 20, 15, 21, 22, 23, 24, 25, 26, 67, 68, 69, 70, 71, 72, 73, 74, 75, 76, 77, 78] (by rfl) (by rfl)
set_option maxRecDepth 20000 in
theorem gX3_chooseExactSet_X0_isOpenFor : GoodIn wsX3_chooseExactSet (wsV RX3 182 RX0 yX0_isOpenFor wsX0_isOpenFor) := goodIn_app (goodIn_r _ [12, 13, 14, 15] (by rfl) (by rfl)) ggX3_chooseExactSet_X0_isOpenFor
set_option maxRecDepth 20000 in
theorem ggX3_chooseExactSet_X0_dueOn : GoodIn wsX3_chooseExactSet wsX0_dueOn := goodIn_r _ [30, 31, 18, 19, 20, 15, 21, 22, 23, 24, 25, 26, 32, 33, 34, 35, 36, 67, 68, 69, 70, 71, 72, 73, 74, 75, 76, 77, 78] (by rfl) (by rfl)
set_option maxRecDepth 20000 in
theorem gX3_chooseExactSet_X0_dueOn : GoodIn wsX3_chooseExactSet (wsV RX3 132 RX0 yX0_dueOn wsX0_dueOn) := goodIn_app (goodIn_r _ [27, 28, 29, 15] (by rfl) (by rfl)) ggX3_chooseExactSet_X0_dueOn
set_option maxRecDepth 20000 in
theorem ggX3_chooseExactSet_X1_offer : GoodIn wsX3_chooseExactSet wsX1_offer := goodIn_r _ [40, 10, 41, 42, 79, 80, 81, 82] (by rfl) (by rfl)
set_option maxRecDepth 20000 in
theorem gX3_chooseExactSet_X1_offer : GoodIn wsX3_chooseExactSet (wsV RX3 209 RX1 yX1_offer wsX1_offer) := goodIn_app (goodIn_r _ [37, 38, 39, 8] (by rfl) (by rfl)) ggX3_chooseExactSet_X1_offer
set_option maxRecDepth 20000 in
theorem ggX3_chooseExactSet_X1_choose : GoodIn wsX3_chooseExactSet wsX1_choose := goodIn_r _ [46, 47, 48, 49, 8, 50, 11, 41, 51, 52, 53, 54, 10, 42, 55, 56, 57, 58, 59, 60, 61, 62, 79, 80, 81, 82] (by rfl) (by rfl)
set_option maxRecDepth 20000 in
theorem gX3_chooseExactSet_X1_choose : GoodIn wsX3_chooseExactSet (wsV RX3 212 RX1 yX1_choose wsX1_choose) := goodIn_app (goodIn_r _ [43, 44, 45, 8] (by rfl) (by rfl)) ggX3_chooseExactSet_X1_choose
set_option maxRecDepth 20000 in
theorem ggX4_isCustomer_X4_in : GoodIn wsX4_isCustomer wsX4_in := goodIn_r _ [4] (by rfl) (by rfl)
set_option maxRecDepth 20000 in
theorem gX4_isCustomer_X4_in : GoodIn wsX4_isCustomer (va_wsS RX4 75 yX4_in wsX4_in) := goodIn_app (goodIn_r _ [1, 2, 3] (by rfl) (by rfl)) ggX4_isCustomer_X4_in
set_option maxRecDepth 20000 in
theorem ggX4_isBill_X4_in : GoodIn wsX4_isBill wsX4_in := goodIn_r _ [5] (by rfl) (by rfl)
set_option maxRecDepth 20000 in
theorem gX4_isBill_X4_in : GoodIn wsX4_isBill (va_wsS RX4 75 yX4_in wsX4_in) := goodIn_app (goodIn_r _ [2, 3, 4] (by rfl) (by rfl)) ggX4_isBill_X4_in
set_option maxRecDepth 20000 in
theorem ggX4_isReceipt_X4_in : GoodIn wsX4_isReceipt wsX4_in := goodIn_r _ [5] (by rfl) (by rfl)
set_option maxRecDepth 20000 in
theorem gX4_isReceipt_X4_in : GoodIn wsX4_isReceipt (va_wsS RX4 75 yX4_in wsX4_in) := goodIn_app (goodIn_r _ [2, 3, 4] (by rfl) (by rfl)) ggX4_isReceipt_X4_in
set_option maxRecDepth 20000 in
theorem ggX4_discount_X4_openNow : GoodIn wsX4_discount wsX4_openNow := goodIn_r _ [11, 1, 12, 13, 14, 15, 16, 17, 18, 19, 20, 21, 22, 23, 24, 25, 26, 27, 28, 29, 30, 31, 32, 33, 34, 35, 36, 37, 38, 39] (by rfl) (by rfl)
set_option maxRecDepth 20000 in
theorem gX4_discount_X4_openNow : GoodIn wsX4_discount (wsV RX4 85 RX4 yX4_openNow wsX4_openNow) := goodIn_app (goodIn_r _ [7, 8, 9, 10] (by rfl) (by rfl)) ggX4_discount_X4_openNow
set_option maxRecDepth 20000 in
theorem ggX4_dueNow_X4_openNow : GoodIn wsX4_dueNow wsX4_openNow := goodIn_r _ [5, 6, 7, 8, 9, 10, 20, 21, 22, 23, 24, 25, 26, 27, 28, 29, 30, 31, 32, 33, 34, 35, 36, 37, 38, 39, 40, 41, 42, 43] (by rfl) (by rfl)
set_option maxRecDepth 20000 in
theorem gX4_dueNow_X4_openNow : GoodIn wsX4_dueNow (wsV RX4 85 RX4 yX4_openNow wsX4_openNow) := goodIn_app (goodIn_r _ [1, 2, 3, 4] (by rfl) (by rfl)) ggX4_dueNow_X4_openNow
set_option maxRecDepth 20000 in
theorem ggX4_dueNow_X4_discount : GoodIn wsX4_dueNow wsX4_discount := goodIn_r _ [14, 6, 15, 16, 17, 18, 19, 1, 2, 3, 4, 5, 7, 8, 9, 10, 20, 21, 22, 23, 24, 25, 26, 27, 28, 29, 30, 31, 32, 33, 34, 35, 36, 37, 38, 39, 40, 41, 42, 43] (by rfl) (by rfl)
set_option maxRecDepth 20000 in
theorem gX4_dueNow_X4_discount : GoodIn wsX4_dueNow (wsV RX4 94 RX4 yX4_discount wsX4_discount) := goodIn_app (goodIn_r _ [11, 12, 13, 4] (by rfl) (by rfl)) ggX4_dueNow_X4_discount
set_option maxRecDepth 20000 in
theorem ggX4_pay_X4_dueNow : GoodIn wsX4_pay wsX4_dueNow := goodIn_r _ [11, 12, 13, 14, 10, 15, 16, 4, 2, 17, 18, 19, 20, 21, 22, 23, 24, 25, 26, 27, 28, 29, 30, 31, 32, 33, 34, 35, 36, 37, 38, 39, 40, 41, 42, 43, 44, 45, 46, 47, 48, 49, 50, 51] (by rfl) (by rfl)
set_option maxRecDepth 20000 in
theorem gX4_pay_X4_dueNow : GoodIn wsX4_pay (wsV RX4 97 RX4 yX4_dueNow wsX4_dueNow) := goodIn_app (goodIn_r _ [7, 8, 9, 10] (by rfl) (by rfl)) ggX4_pay_X4_dueNow
set_option maxRecDepth 20000 in
theorem ggX4_pay_X4_discount : GoodIn wsX4_pay wsX4_discount := goodIn_r _ [22, 16, 23, 24, 25, 26, 27, 12, 13, 14, 10, 15, 4, 2, 17, 18, 28, 29, 30, 31, 32, 33, 34, 35, 36, 37, 38, 39, 40, 41, 42, 43, 44, 45, 46, 47, 48, 49, 50, 51] (by rfl) (by rfl)
set_option maxRecDepth 20000 in
theorem gX4_pay_X4_discount : GoodIn wsX4_pay (wsV RX4 94 RX4 yX4_discount wsX4_discount) := goodIn_app (goodIn_r _ [19, 20, 21, 10] (by rfl) (by rfl)) ggX4_pay_X4_discount
set_option maxRecDepth 20000 in
theorem ggX4_payNamed_X4_openNow : GoodIn wsX4_payNamed wsX4_openNow := goodIn_r _ [10, 11, 12, 13, 14, 15, 41, 42, 43, 44, 45, 46, 47, 48, 49, 50, 51, 52, 53, 54, 55, 56, 57, 58, 59, 60, 61, 62, 63, 64] (by rfl) (by rfl)
set_option maxRecDepth 20000 in
theorem gX4_payNamed_X4_openNow : GoodIn wsX4_payNamed (wsV RX4 85 RX4 yX4_openNow wsX4_openNow) := goodIn_app (goodIn_r _ [6, 7, 8, 9] (by rfl) (by rfl)) ggX4_payNamed_X4_openNow
set_option maxRecDepth 20000 in
theorem ggX4_payNamed_X4_pay : GoodIn wsX4_payNamed wsX4_pay := goodIn_r _ [19, 5, 13, 20, 12, 21, 22, 23, 24, 25, 9, 26, 6, 7, 8, 10, 11, 14, 15, 27, 28, 29, 30, 31, 32, 33, 34, 35, 41, 42, 43, 44, 45, 46, 47, 48, 49, 50, 51, 52, 53, 54, 55, 56, 57, 58, 59, 60, 61, 62, 63, 64] (by rfl) (by rfl)
set_option maxRecDepth 20000 in
theorem gX4_payNamed_X4_pay : GoodIn wsX4_payNamed (wsV RX4 100 RX4 yX4_pay wsX4_pay) := goodIn_app (goodIn_r _ [16, 17, 18, 9] (by rfl) (by rfl)) ggX4_payNamed_X4_pay
set_option maxRecDepth 20000 in
theorem ggX4_payNamed_X4_dispute : GoodIn wsX4_payNamed wsX4_dispute := goodIn_r _ [39, 14, 40, 6, 7, 8, 9, 10, 11, 12, 13, 15, 41, 42, 43, 44, 45, 46, 47, 48, 49, 50, 51, 52, 53, 54, 55, 56, 57, 58, 59, 60, 61, 62, 63, 64] (by rfl) (by rfl)
set_option maxRecDepth 20000 in
theorem gX4_payNamed_X4_dispute : GoodIn wsX4_payNamed (wsV RX4 104 RX4 yX4_dispute wsX4_dispute) := goodIn_app (goodIn_r _ [36, 37, 38, 9] (by rfl) (by rfl)) ggX4_payNamed_X4_dispute
set_option maxRecDepth 20000 in
theorem ggX4_dispute_X4_openNow : GoodIn wsX4_dispute wsX4_openNow := goodIn_r _ [7, 8, 9, 10, 1, 11, 12, 13, 14, 15, 16, 17, 18, 19, 20, 21, 22, 23, 24, 25, 26, 27, 28, 29, 30, 31, 32, 33, 34, 35] (by rfl) (by rfl)
set_option maxRecDepth 20000 in
theorem gX4_dispute_X4_openNow : GoodIn wsX4_dispute (wsV RX4 85 RX4 yX4_openNow wsX4_openNow) := goodIn_app (goodIn_r _ [3, 4, 5, 6] (by rfl) (by rfl)) ggX4_dispute_X4_openNow
set_option maxRecDepth 20000 in
theorem ggX4_dueOf_X4_isBill : GoodIn wsX4_dueOf wsX4_isBill := goodIn_r _ [6, 7, 8, 9, 5, 10, 33, 34, 35, 36, 37, 38, 39, 40, 41, 42, 43, 44, 45, 46, 47, 48, 49, 50, 51, 52, 53, 54, 55, 56] (by rfl) (by rfl)
set_option maxRecDepth 20000 in
theorem gX4_dueOf_X4_isBill : GoodIn wsX4_dueOf (wsV RX4 108 RX4 yX4_isBill wsX4_isBill) := goodIn_app (goodIn_r _ [2, 3, 4, 5] (by rfl) (by rfl)) ggX4_dueOf_X4_isBill
set_option maxRecDepth 20000 in
theorem ggX4_dueOf_X4_openNow : GoodIn wsX4_dueOf wsX4_openNow := goodIn_r _ [14, 15, 16, 17, 18, 19, 33, 34, 35, 36, 37, 38, 39, 40, 41, 42, 43, 44, 45, 46, 47, 48, 49, 50, 51, 52, 53, 54, 55, 56] (by rfl) (by rfl)
set_option maxRecDepth 20000 in
theorem gX4_dueOf_X4_openNow : GoodIn wsX4_dueOf (wsV RX4 85 RX4 yX4_openNow wsX4_openNow) := goodIn_app (goodIn_r _ [11, 12, 13, 5] (by rfl) (by rfl)) ggX4_dueOf_X4_openNow
set_option maxRecDepth 20000 in
theorem ggX4_dueOf_X4_dueNow : GoodIn wsX4_dueOf wsX4_dueNow := goodIn_r _ [23, 11, 12, 13, 5, 14, 15, 16, 17, 18, 19, 24, 25, 26, 27, 28, 29, 30, 31, 32, 33, 34, 35, 36, 37, 38, 39, 40, 41, 42, 43, 44, 45, 46, 47, 48, 49, 50, 51, 52, 53, 54, 55, 56] (by rfl) (by rfl)
set_option maxRecDepth 20000 in
theorem gX4_dueOf_X4_dueNow : GoodIn wsX4_dueOf (wsV RX4 97 RX4 yX4_dueNow wsX4_dueNow) := goodIn_app (goodIn_r _ [20, 21, 22, 5] (by rfl) (by rfl)) ggX4_dueOf_X4_dueNow
set_option maxRecDepth 20000 in
theorem ggX4_choose_X4_dueOf : GoodIn wsX4_choose wsX4_dueOf := goodIn_r _ [7, 8, 9, 10, 11, 6, 12, 1, 13, 14, 15, 16, 17, 18, 19, 20, 21, 22, 23, 24, 25, 26, 27, 28, 29, 30, 31, 32, 33, 34, 35, 36, 37, 38, 39, 40, 41, 42, 43, 44, 45, 46, 47, 48, 49, 50, 51, 52, 53, 54, 55, 56, 57, 58, 59, 60, 61] (by rfl) (by rfl)
set_option maxRecDepth 20000 in
theorem gX4_choose_X4_dueOf : GoodIn wsX4_choose (wsV RX4 112 RX4 yX4_dueOf wsX4_dueOf) := goodIn_app (goodIn_r _ [3, 4, 5, 6] (by rfl) (by rfl)) ggX4_choose_X4_dueOf
set_option maxRecDepth 20000 in
theorem ggX4_payOthers_X4_choose : GoodIn wsX4_payOthers wsX4_choose := goodIn_r _ [11, 4, 3, 12, 13, 14, 10, 15, 6, 16, 17, 18, 19, 20, 21, 22, 23, 24, 25, 26, 27, 28, 29, 30, 31, 32, 33, 34, 35, 36, 37, 38, 39, 40, 5, 41, 42, 43, 51, 52, 53, 54, 55, 56, 57, 58, 59, 60, 61, 62, 63, 64, 65, 66, 67, 68, 69, 70, 71, 72, 73, 74] (by rfl) (by rfl)
set_option maxRecDepth 20000 in
theorem gX4_payOthers_X4_choose : GoodIn wsX4_payOthers (wsV RX4 116 RX4 yX4_choose wsX4_choose) := goodIn_app (goodIn_r _ [7, 8, 9, 10] (by rfl) (by rfl)) ggX4_payOthers_X4_choose
set_option maxRecDepth 20000 in
theorem ggX4_payOthers_X4_pay : GoodIn wsX4_payOthers wsX4_pay := goodIn_r _ [47, 2, 29, 48, 28, 49, 50, 32, 33, 34, 10, 35, 23, 24, 25, 26, 27, 30, 31, 36, 37, 38, 39, 40, 5, 41, 42, 43, 51, 52, 53, 54, 55, 56, 57, 58, 59, 60, 61, 62, 63, 64, 65, 66, 67, 68, 69, 70, 71, 72, 73, 74] (by rfl) (by rfl)
set_option maxRecDepth 20000 in
theorem gX4_payOthers_X4_pay : GoodIn wsX4_payOthers (wsV RX4 100 RX4 yX4_pay wsX4_pay) := goodIn_app (goodIn_r _ [44, 45, 46, 10] (by rfl) (by rfl)) ggX4_payOthers_X4_pay
set_option maxRecDepth 20000 in
theorem ggX4_payOthers_X4_openNow : GoodIn wsX4_payOthers wsX4_openNow := goodIn_r _ [26, 27, 28, 29, 30, 31, 51, 52, 53, 54, 55, 56, 57, 58, 59, 60, 61, 62, 63, 64, 65, 66, 67, 68, 69, 70, 71, 72, 73, 74] (by rfl) (by rfl)
set_option maxRecDepth 20000 in
theorem gX4_payOthers_X4_openNow : GoodIn wsX4_payOthers (wsV RX4 85 RX4 yX4_openNow wsX4_openNow) := goodIn_app (goodIn_r _ [23, 24, 25, 10] (by rfl) (by rfl)) ggX4_payOthers_X4_openNow
set_option maxRecDepth 20000 in
theorem ggX4_bill_X4_in : GoodIn wsX4_bill wsX4_in := goodIn_r _ [15] (by rfl) (by rfl)
set_option maxRecDepth 20000 in
theorem gX4_bill_X4_in : GoodIn wsX4_bill (va_wsS RX4 75 yX4_in wsX4_in) := goodIn_app (goodIn_r _ [12, 13, 14] (by rfl) (by rfl)) ggX4_bill_X4_in
set_option maxRecDepth 20000 in
theorem ggX4_bill_X4_isCustomer : GoodIn wsX4_bill wsX4_isCustomer := goodIn_r _ [18, 12, 13, 14, 15] (by rfl) (by rfl)
set_option maxRecDepth 20000 in
theorem gX4_bill_X4_isCustomer : GoodIn wsX4_bill (va_wsS RX4 121 yX4_isCustomer wsX4_isCustomer) := goodIn_app (goodIn_r _ [16, 17, 14] (by rfl) (by rfl)) ggX4_bill_X4_isCustomer
set_option maxRecDepth 20000 in
theorem ggX4_bill_X4_refused : GoodIn wsX4_bill wsX4_refused := goodIn_r _ [22, 23, 24, 25, 26, 27, 28, 29, 30, 31, 32, 33, 34, 35, 36, 37, 38, 39, 40, 41, 42, 43, 44, 45, 46, 47] (by rfl) (by rfl)
set_option maxRecDepth 20000 in
theorem gX4_bill_X4_refused : GoodIn wsX4_bill (wsV RX4 124 RX4 yX4_refused wsX4_refused) := goodIn_app (goodIn_r _ [19, 20, 21, 14] (by rfl) (by rfl)) ggX4_bill_X4_refused
set_option maxRecDepth 20000 in
theorem ggX4_receive_X4_in : GoodIn wsX4_receive wsX4_in := goodIn_r _ [9] (by rfl) (by rfl)
set_option maxRecDepth 20000 in
theorem gX4_receive_X4_in : GoodIn wsX4_receive (va_wsS RX4 75 yX4_in wsX4_in) := goodIn_app (goodIn_r _ [6, 7, 8] (by rfl) (by rfl)) ggX4_receive_X4_in
set_option maxRecDepth 20000 in
theorem ggX4_receive_X4_isCustomer : GoodIn wsX4_receive wsX4_isCustomer := goodIn_r _ [12, 6, 7, 8, 9] (by rfl) (by rfl)
set_option maxRecDepth 20000 in
theorem gX4_receive_X4_isCustomer : GoodIn wsX4_receive (va_wsS RX4 121 yX4_isCustomer wsX4_isCustomer) := goodIn_app (goodIn_r _ [10, 11, 8] (by rfl) (by rfl)) ggX4_receive_X4_isCustomer
set_option maxRecDepth 20000 in
theorem ggX4_receive_X4_refused : GoodIn wsX4_receive wsX4_refused := goodIn_r _ [16, 17, 76, 77, 78, 79, 80, 81, 82, 83, 84, 85, 86, 87, 88, 89, 90, 91, 92, 93, 94, 95, 96, 97, 98, 99] (by rfl) (by rfl)
set_option maxRecDepth 20000 in
theorem gX4_receive_X4_refused : GoodIn wsX4_receive (wsV RX4 124 RX4 yX4_refused wsX4_refused) := goodIn_app (goodIn_r _ [13, 14, 15, 8] (by rfl) (by rfl)) ggX4_receive_X4_refused
set_option maxRecDepth 20000 in
theorem ggX4_receive_X4_payNamed : GoodIn wsX4_receive wsX4_payNamed := goodIn_r _ [21, 22, 4, 23, 24, 5, 25, 26, 27, 8, 28, 29, 30, 31, 32, 33, 34, 35, 36, 37, 38, 39, 40, 41, 42, 43, 44, 45, 46, 47, 48, 49, 50, 51, 52, 53, 54, 55, 56, 57, 58, 76, 77, 78, 79, 80, 81, 82, 83, 84, 85, 86, 87, 88, 89, 90, 91, 92, 93, 94, 95, 96, 97, 98, 99] (by rfl) (by rfl)
set_option maxRecDepth 20000 in
theorem gX4_receive_X4_payNamed : GoodIn wsX4_receive (wsV RX4 127 RX4 yX4_payNamed wsX4_payNamed) := goodIn_app (goodIn_r _ [18, 19, 20, 8] (by rfl) (by rfl)) ggX4_receive_X4_payNamed
set_option maxRecDepth 20000 in
theorem ggX4_receive_X4_payOthers : GoodIn wsX4_receive wsX4_payOthers := goodIn_r _ [62, 4, 5, 63, 22, 50, 24, 64, 65, 66, 8, 67, 68, 69, 70, 71, 72, 73, 74, 75, 6, 7, 9, 25, 26, 27, 28, 29, 30, 31, 32, 33, 41, 42, 43, 44, 45, 46, 47, 48, 49, 51, 52, 53, 34, 35, 36, 37, 38, 39, 40, 76, 77, 78, 79, 80, 81, 82, 83, 84, 85, 86, 87, 88, 89, 90, 91, 92, 93, 94, 95, 96, 97, 98, 99] (by rfl) (by rfl)
set_option maxRecDepth 20000 in
theorem gX4_receive_X4_payOthers : GoodIn wsX4_receive (wsV RX4 130 RX4 yX4_payOthers wsX4_payOthers) := goodIn_app (goodIn_r _ [59, 60, 61, 8] (by rfl) (by rfl)) ggX4_receive_X4_payOthers
set_option maxRecDepth 20000 in
theorem ggX4_assign_X4_isReceipt : GoodIn wsX4_assign wsX4_isReceipt := goodIn_r _ [8, 9, 10, 11, 7, 12, 69, 70, 71, 72, 73, 74, 75, 76, 77, 78, 79, 80, 81, 82, 83, 84, 85, 86, 87, 88, 89, 90, 91, 92] (by rfl) (by rfl)
set_option maxRecDepth 20000 in
theorem gX4_assign_X4_isReceipt : GoodIn wsX4_assign (wsV RX4 134 RX4 yX4_isReceipt wsX4_isReceipt) := goodIn_app (goodIn_r _ [4, 5, 6, 7] (by rfl) (by rfl)) ggX4_assign_X4_isReceipt
set_option maxRecDepth 20000 in
theorem ggX4_assign_X4_isCustomer : GoodIn wsX4_assign wsX4_isCustomer := goodIn_r _ [15, 10, 11, 7, 12] (by rfl) (by rfl)
set_option maxRecDepth 20000 in
theorem gX4_assign_X4_isCustomer : GoodIn wsX4_assign (va_wsS RX4 121 yX4_isCustomer wsX4_isCustomer) := goodIn_app (goodIn_r _ [13, 14, 7] (by rfl) (by rfl)) ggX4_assign_X4_isCustomer
set_option maxRecDepth 20000 in
theorem ggX4_assign_X4_refused : GoodIn wsX4_assign wsX4_refused := goodIn_r _ [19, 20, 69, 70, 71, 72, 73, 74, 75, 76, 77, 78, 79, 80, 81, 82, 83, 84, 85, 86, 87, 88, 89, 90, 91, 92] (by rfl) (by rfl)
set_option maxRecDepth 20000 in
theorem gX4_assign_X4_refused : GoodIn wsX4_assign (wsV RX4 124 RX4 yX4_refused wsX4_refused) := goodIn_app (goodIn_r _ [16, 17, 18, 7] (by rfl) (by rfl)) ggX4_assign_X4_refused
set_option maxRecDepth 20000 in
theorem ggX4_assign_X4_payOthers : GoodIn wsX4_assign wsX4_payOthers := goodIn_r _ [24, 1, 3, 25, 26, 27, 28, 29, 30, 31, 7, 32, 33, 34, 35, 36, 37, 38, 39, 40, 10, 11, 12, 41, 42, 43, 44, 45, 46, 47, 48, 49, 50, 51, 52, 53, 54, 55, 56, 57, 58, 59, 60, 61, 62, 63, 64, 65, 66, 67, 68, 69, 70, 71, 72, 73, 74, 75, 76, 77, 78, 79, 80, 81, 82, 83, 84, 85, 86, 87, 88, 89, 90, 91, 92] (by rfl) (by rfl)
set_option maxRecDepth 20000 in
theorem gX4_assign_X4_payOthers : GoodIn wsX4_assign (wsV RX4 130 RX4 yX4_payOthers wsX4_payOthers) := goodIn_app (goodIn_r _ [21, 22, 23, 7] (by rfl) (by rfl)) ggX4_assign_X4_payOthers
set_option maxRecDepth 20000 in
theorem ggX4_apply_X4_isReceipt : GoodIn wsX4_apply wsX4_isReceipt := goodIn_r _ [8, 9, 10, 11, 7, 12, 66, 67, 68, 69, 70, 71, 72, 73, 74, 75, 76, 77, 78, 79, 80, 81, 82, 83, 84, 85, 86, 87, 88, 89] (by rfl) (by rfl)
set_option maxRecDepth 20000 in
theorem gX4_apply_X4_isReceipt : GoodIn wsX4_apply (wsV RX4 134 RX4 yX4_isReceipt wsX4_isReceipt) := goodIn_app (goodIn_r _ [4, 5, 6, 7] (by rfl) (by rfl)) ggX4_apply_X4_isReceipt
set_option maxRecDepth 20000 in
theorem ggX4_apply_X4_refused : GoodIn wsX4_apply wsX4_refused := goodIn_r _ [16, 17, 66, 67, 68, 69, 70, 71, 72, 73, 74, 75, 76, 77, 78, 79, 80, 81, 82, 83, 84, 85, 86, 87, 88, 89] (by rfl) (by rfl)
set_option maxRecDepth 20000 in
theorem gX4_apply_X4_refused : GoodIn wsX4_apply (wsV RX4 124 RX4 yX4_refused wsX4_refused) := goodIn_app (goodIn_r _ [13, 14, 15, 7] (by rfl) (by rfl)) ggX4_apply_X4_refused
set_option maxRecDepth 20000 in
theorem ggX4_apply_X4_payOthers : GoodIn wsX4_apply wsX4_payOthers := goodIn_r _ [21, 1, 3, 22, 23, 24, 25, 26, 27, 28, 7, 29, 30, 31, 32, 33, 34, 35, 36, 37, 10, 11, 12, 38, 39, 40, 41, 42, 43, 44, 45, 46, 47, 48, 49, 50, 51, 52, 53, 54, 55, 56, 57, 58, 59, 60, 61, 62, 63, 64, 65, 66, 67, 68, 69, 70, 71, 72, 73, 74, 75, 76, 77, 78, 79, 80, 81, 82, 83, 84, 85, 86, 87, 88, 89] (by rfl) (by rfl)
set_option maxRecDepth 20000 in
theorem gX4_apply_X4_payOthers : GoodIn wsX4_apply (wsV RX4 130 RX4 yX4_payOthers wsX4_payOthers) := goodIn_app (goodIn_r _ [18, 19, 20, 7] (by rfl) (by rfl)) ggX4_apply_X4_payOthers
set_option maxRecDepth 20000 in
theorem ggX4_payBack_X4_isReceipt : GoodIn wsX4_payBack wsX4_isReceipt := goodIn_r _ [8, 9, 10, 11, 7, 12, 18, 19, 20, 21, 22, 23, 24, 25, 26, 27, 28, 29, 30, 31, 32, 33, 34, 35, 36, 37, 38, 39, 40, 41] (by rfl) (by rfl)
set_option maxRecDepth 20000 in
theorem gX4_payBack_X4_isReceipt : GoodIn wsX4_payBack (wsV RX4 134 RX4 yX4_isReceipt wsX4_isReceipt) := goodIn_app (goodIn_r _ [4, 5, 6, 7] (by rfl) (by rfl)) ggX4_payBack_X4_isReceipt
set_option maxRecDepth 20000 in
theorem ggX4_payBack_X4_refused : GoodIn wsX4_payBack wsX4_refused := goodIn_r _ [16, 17, 18, 19, 20, 21, 22, 23, 24, 25, 26, 27, 28, 29, 30, 31, 32, 33, 34, 35, 36, 37, 38, 39, 40, 41] (by rfl) (by rfl)
set_option maxRecDepth 20000 in
theorem gX4_payBack_X4_refused : GoodIn wsX4_payBack (wsV RX4 124 RX4 yX4_refused wsX4_refused) := goodIn_app (goodIn_r _ [13, 14, 15, 7] (by rfl) (by rfl)) ggX4_payBack_X4_refused
set_option maxRecDepth 20000 in
theorem ggX4_bounce_X4_isReceipt : GoodIn wsX4_bounce wsX4_isReceipt := goodIn_r _ [16, 17, 18, 19, 15, 20, 26, 27, 28, 29, 30, 31, 32, 33, 34, 35, 36, 37, 38, 39, 40, 41, 42, 43, 44, 45, 46, 47, 48, 49] (by rfl) (by rfl)
set_option maxRecDepth 20000 in
theorem gX4_bounce_X4_isReceipt : GoodIn wsX4_bounce (wsV RX4 134 RX4 yX4_isReceipt wsX4_isReceipt) := goodIn_app (goodIn_r _ [12, 13, 14, 15] (by rfl) (by rfl)) ggX4_bounce_X4_isReceipt
set_option maxRecDepth 20000 in
theorem ggX4_bounce_X4_refused : GoodIn wsX4_bounce wsX4_refused := goodIn_r _ [24, 25, 26, 27, 28, 29, 30, 31, 32, 33, 34, 35, 36, 37, 38, 39, 40, 41, 42, 43, 44, 45, 46, 47, 48, 49] (by rfl) (by rfl)
set_option maxRecDepth 20000 in
theorem gX4_bounce_X4_refused : GoodIn wsX4_bounce (wsV RX4 124 RX4 yX4_refused wsX4_refused) := goodIn_app (goodIn_r _ [21, 22, 23, 15] (by rfl) (by rfl)) ggX4_bounce_X4_refused
set_option maxRecDepth 20000 in
theorem ggX4_settle_X4_isBill : GoodIn wsX4_settle wsX4_isBill := goodIn_r _ [8, 9, 10, 11, 7, 12, 18, 19, 20, 21, 22, 23, 24, 25, 26, 27, 28, 29, 30, 31, 32, 33, 34, 35, 36, 37, 38, 39, 40, 41] (by rfl) (by rfl)
set_option maxRecDepth 20000 in
theorem gX4_settle_X4_isBill : GoodIn wsX4_settle (wsV RX4 108 RX4 yX4_isBill wsX4_isBill) := goodIn_app (goodIn_r _ [4, 5, 6, 7] (by rfl) (by rfl)) ggX4_settle_X4_isBill
set_option maxRecDepth 20000 in
theorem ggX4_settle_X4_refused : GoodIn wsX4_settle wsX4_refused := goodIn_r _ [16, 17, 18, 19, 20, 21, 22, 23, 24, 25, 26, 27, 28, 29, 30, 31, 32, 33, 34, 35, 36, 37, 38, 39, 40, 41] (by rfl) (by rfl)
set_option maxRecDepth 20000 in
theorem gX4_settle_X4_refused : GoodIn wsX4_settle (wsV RX4 124 RX4 yX4_refused wsX4_refused) := goodIn_app (goodIn_r _ [13, 14, 15, 7] (by rfl) (by rfl)) ggX4_settle_X4_refused
set_option maxRecDepth 20000 in
theorem ggX4_advance_X4_in : GoodIn wsX4_advance wsX4_in := goodIn_r _ [5] (by rfl) (by rfl)
set_option maxRecDepth 20000 in
theorem gX4_advance_X4_in : GoodIn wsX4_advance (va_wsS RX4 75 yX4_in wsX4_in) := goodIn_app (goodIn_r _ [2, 3, 4] (by rfl) (by rfl)) ggX4_advance_X4_in
set_option maxRecDepth 20000 in
theorem ggX4_advance_X4_refused : GoodIn wsX4_advance wsX4_refused := goodIn_r _ [9, 10, 11, 12, 13, 14, 15, 16, 17, 18, 19, 20, 21, 22, 23, 24, 25, 26, 27, 28, 29, 30, 31, 32, 33, 34] (by rfl) (by rfl)
set_option maxRecDepth 20000 in
theorem gX4_advance_X4_refused : GoodIn wsX4_advance (wsV RX4 124 RX4 yX4_refused wsX4_refused) := goodIn_app (goodIn_r _ [6, 7, 8, 4] (by rfl) (by rfl)) ggX4_advance_X4_refused
set_option maxRecDepth 20000 in
theorem ggX4_bills_X4_fine : GoodIn wsX4_bills wsX4_fine := goodIn_r _ [6, 7, 8, 9, 10, 11, 12, 13, 14, 15, 16, 17, 18, 19, 20, 21, 22, 23, 24, 25, 26, 27, 28, 29, 30, 31] (by rfl) (by rfl)
set_option maxRecDepth 20000 in
theorem gX4_bills_X4_fine : GoodIn wsX4_bills (wsV RX4 137 RX4 yX4_fine wsX4_fine) := goodIn_app (goodIn_r _ [2, 3, 4, 5] (by rfl) (by rfl)) ggX4_bills_X4_fine
set_option maxRecDepth 20000 in
theorem ggX4_noBill_X4_isBill : GoodIn wsX4_noBill wsX4_isBill := goodIn_r _ [5, 6, 7, 8, 4, 9, 15, 16, 17, 18, 19, 20, 21, 22, 23, 24, 25, 26, 27, 28, 29, 30, 31, 32, 33, 34, 35, 36, 37, 38] (by rfl) (by rfl)
set_option maxRecDepth 20000 in
theorem gX4_noBill_X4_isBill : GoodIn wsX4_noBill (wsV RX4 108 RX4 yX4_isBill wsX4_isBill) := goodIn_app (goodIn_r _ [1, 2, 3, 4] (by rfl) (by rfl)) ggX4_noBill_X4_isBill
set_option maxRecDepth 20000 in
theorem ggX4_noBill_X4_refused : GoodIn wsX4_noBill wsX4_refused := goodIn_r _ [13, 14, 15, 16, 17, 18, 19, 20, 21, 22, 23, 24, 25, 26, 27, 28, 29, 30, 31, 32, 33, 34, 35, 36, 37, 38] (by rfl) (by rfl)
set_option maxRecDepth 20000 in
theorem gX4_noBill_X4_refused : GoodIn wsX4_noBill (wsV RX4 124 RX4 yX4_refused wsX4_refused) := goodIn_app (goodIn_r _ [10, 11, 12, 4] (by rfl) (by rfl)) ggX4_noBill_X4_refused
set_option maxRecDepth 20000 in
theorem ggX4_open_X4_noBill : GoodIn wsX4_open wsX4_noBill := goodIn_r _ [5, 6, 7, 8, 4, 9, 10, 11, 12, 13, 14, 15, 16, 17, 18, 28, 29, 30, 31, 32, 33, 34, 35, 36, 37, 38, 39, 40, 41, 42, 43, 44, 45, 46, 47, 48, 49, 50, 51] (by rfl) (by rfl)
set_option maxRecDepth 20000 in
theorem gX4_open_X4_noBill : GoodIn wsX4_open (wsV RX4 140 RX4 yX4_noBill wsX4_noBill) := goodIn_app (goodIn_r _ [1, 2, 3, 4] (by rfl) (by rfl)) ggX4_open_X4_noBill
set_option maxRecDepth 20000 in
theorem ggX4_open_X4_openNow : GoodIn wsX4_open wsX4_openNow := goodIn_r _ [22, 23, 24, 25, 26, 27, 28, 29, 30, 31, 32, 33, 34, 35, 36, 37, 38, 39, 40, 41, 42, 43, 44, 45, 46, 47, 48, 49, 50, 51] (by rfl) (by rfl)
set_option maxRecDepth 20000 in
theorem gX4_open_X4_openNow : GoodIn wsX4_open (wsV RX4 85 RX4 yX4_openNow wsX4_openNow) := goodIn_app (goodIn_r _ [19, 20, 21, 4] (by rfl) (by rfl)) ggX4_open_X4_openNow
set_option maxRecDepth 20000 in
theorem ggX4_due_X4_noBill : GoodIn wsX4_due wsX4_noBill := goodIn_r _ [5, 6, 7, 8, 4, 9, 10, 11, 12, 13, 14, 15, 16, 17, 18, 41, 42, 43, 44, 45, 46, 47, 48, 49, 50, 51, 52, 53, 54, 55, 56, 57, 58, 59, 60, 61, 62, 63, 64] (by rfl) (by rfl)
set_option maxRecDepth 20000 in
theorem gX4_due_X4_noBill : GoodIn wsX4_due (wsV RX4 140 RX4 yX4_noBill wsX4_noBill) := goodIn_app (goodIn_r _ [1, 2, 3, 4] (by rfl) (by rfl)) ggX4_due_X4_noBill
set_option maxRecDepth 20000 in
theorem ggX4_due_X4_dueNow : GoodIn wsX4_due wsX4_dueNow := goodIn_r _ [22, 23, 24, 25, 4, 26, 27, 28, 29, 30, 31, 32, 33, 34, 35, 36, 37, 38, 39, 40, 41, 42, 43, 44, 45, 46, 47, 48, 49, 50, 51, 52, 53, 54, 55, 56, 57, 58, 59, 60, 61, 62, 63, 64] (by rfl) (by rfl)
set_option maxRecDepth 20000 in
theorem gX4_due_X4_dueNow : GoodIn wsX4_due (wsV RX4 97 RX4 yX4_dueNow wsX4_dueNow) := goodIn_app (goodIn_r _ [19, 20, 21, 4] (by rfl) (by rfl)) ggX4_due_X4_dueNow
set_option maxRecDepth 20000 in
theorem ggX4_paid_X4_noBill : GoodIn wsX4_paid wsX4_noBill := goodIn_r _ [6, 7, 8, 9, 5, 10, 11, 12, 13, 14, 15, 16, 17, 18, 19, 20, 21, 22, 23, 24, 25, 26, 27, 28, 29, 30, 31, 32, 33, 34, 35, 36, 37, 38, 39, 40, 41, 42, 43] (by rfl) (by rfl)
set_option maxRecDepth 20000 in
theorem gX4_paid_X4_noBill : GoodIn wsX4_paid (wsV RX4 140 RX4 yX4_noBill wsX4_noBill) := goodIn_app (goodIn_r _ [2, 3, 4, 5] (by rfl) (by rfl)) ggX4_paid_X4_noBill
set_option maxRecDepth 20000 in
theorem ggX4_taken_X4_noBill : GoodIn wsX4_taken wsX4_noBill := goodIn_r _ [6, 7, 8, 9, 5, 10, 11, 12, 13, 14, 15, 16, 17, 18, 19, 20, 21, 22, 23, 24, 25, 26, 27, 28, 29, 30, 31, 32, 33, 34, 35, 36, 37, 38, 39, 40, 41, 42, 43] (by rfl) (by rfl)
set_option maxRecDepth 20000 in
theorem gX4_taken_X4_noBill : GoodIn wsX4_taken (wsV RX4 140 RX4 yX4_noBill wsX4_noBill) := goodIn_app (goodIn_r _ [2, 3, 4, 5] (by rfl) (by rfl)) ggX4_taken_X4_noBill
set_option maxRecDepth 20000 in
theorem ggX4_disputed_X4_noBill : GoodIn wsX4_disputed wsX4_noBill := goodIn_r _ [6, 7, 8, 9, 5, 10, 11, 12, 13, 14, 15, 16, 17, 18, 19, 20, 21, 22, 23, 24, 25, 26, 27, 28, 29, 30, 31, 32, 33, 34, 35, 36, 37, 38, 39, 40, 41, 42, 43] (by rfl) (by rfl)
set_option maxRecDepth 20000 in
theorem gX4_disputed_X4_noBill : GoodIn wsX4_disputed (wsV RX4 140 RX4 yX4_noBill wsX4_noBill) := goodIn_app (goodIn_r _ [2, 3, 4, 5] (by rfl) (by rfl)) ggX4_disputed_X4_noBill
set_option maxRecDepth 20000 in
theorem ggX4_writtenOff_X4_noBill : GoodIn wsX4_writtenOff wsX4_noBill := goodIn_r _ [6, 7, 8, 9, 5, 10, 11, 12, 13, 14, 15, 16, 17, 18, 19, 20, 21, 22, 23, 24, 25, 26, 27, 28, 29, 30, 31, 32, 33, 34, 35, 36, 37, 38, 39, 40, 41, 42, 43] (by rfl) (by rfl)
set_option maxRecDepth 20000 in
theorem gX4_writtenOff_X4_noBill : GoodIn wsX4_writtenOff (wsV RX4 140 RX4 yX4_noBill wsX4_noBill) := goodIn_app (goodIn_r _ [2, 3, 4, 5] (by rfl) (by rfl)) ggX4_writtenOff_X4_noBill
set_option maxRecDepth 20000 in
theorem ggX4_openOf_X4_openNow : GoodIn wsX4_openOf wsX4_openNow := goodIn_r _ [7, 8, 9, 10, 11, 12, 24, 25, 26, 27, 28, 29, 30, 31, 32, 33, 34, 35, 36, 37, 38, 39, 40, 41, 42, 43, 44, 45, 46, 47] (by rfl) (by rfl)
set_option maxRecDepth 20000 in
theorem gX4_openOf_X4_openNow : GoodIn wsX4_openOf (wsV RX4 85 RX4 yX4_openNow wsX4_openNow) := goodIn_app (goodIn_r _ [3, 4, 5, 6] (by rfl) (by rfl)) ggX4_openOf_X4_openNow
set_option maxRecDepth 20000 in
theorem ggX4_openOf_X4_isCustomer : GoodIn wsX4_openOf wsX4_isCustomer := goodIn_r _ [15, 16, 17, 6, 18] (by rfl) (by rfl)
set_option maxRecDepth 20000 in
theorem gX4_openOf_X4_isCustomer : GoodIn wsX4_openOf (va_wsS RX4 121 yX4_isCustomer wsX4_isCustomer) := goodIn_app (goodIn_r _ [13, 14, 6] (by rfl) (by rfl)) ggX4_openOf_X4_isCustomer
set_option maxRecDepth 20000 in
theorem ggX4_openOf_X4_refused : GoodIn wsX4_openOf wsX4_refused := goodIn_r _ [22, 23, 24, 25, 26, 27, 28, 29, 30, 31, 32, 33, 34, 35, 36, 37, 38, 39, 40, 41, 42, 43, 44, 45, 46, 47] (by rfl) (by rfl)
set_option maxRecDepth 20000 in
theorem gX4_openOf_X4_refused : GoodIn wsX4_openOf (wsV RX4 124 RX4 yX4_refused wsX4_refused) := goodIn_app (goodIn_r _ [19, 20, 21, 6] (by rfl) (by rfl)) ggX4_openOf_X4_refused
set_option maxRecDepth 20000 in
theorem ggX4_setFor_X4_isCustomer : GoodIn wsX4_setFor wsX4_isCustomer := goodIn_r _ [5, 6, 7, 4, 8] (by rfl) (by rfl)
set_option maxRecDepth 20000 in
theorem gX4_setFor_X4_isCustomer : GoodIn wsX4_setFor (va_wsS RX4 121 yX4_isCustomer wsX4_isCustomer) := goodIn_app (goodIn_r _ [2, 3, 4] (by rfl) (by rfl)) ggX4_setFor_X4_isCustomer
set_option maxRecDepth 20000 in
theorem ggX4_setFor_X4_in : GoodIn wsX4_setFor wsX4_in := goodIn_r _ [8] (by rfl) (by rfl)
set_option maxRecDepth 20000 in
theorem gX4_setFor_X4_in : GoodIn wsX4_setFor (va_wsS RX4 75 yX4_in wsX4_in) := goodIn_app (goodIn_r _ [6, 7, 4] (by rfl) (by rfl)) ggX4_setFor_X4_in
set_option maxRecDepth 20000 in
theorem ggX4_setFor_X4_refused : GoodIn wsX4_setFor wsX4_refused := goodIn_r _ [12, 13, 50, 51, 52, 53, 54, 55, 56, 57, 58, 59, 60, 61, 62, 63, 64, 65, 66, 67, 68, 69, 70, 71, 72, 73] (by rfl) (by rfl)
set_option maxRecDepth 20000 in
theorem gX4_setFor_X4_refused : GoodIn wsX4_setFor (wsV RX4 124 RX4 yX4_refused wsX4_refused) := goodIn_app (goodIn_r _ [9, 10, 11, 4] (by rfl) (by rfl)) ggX4_setFor_X4_refused
set_option maxRecDepth 20000 in
theorem ggX4_setFor_X4_choose : GoodIn wsX4_setFor wsX4_choose := goodIn_r _ [17, 18, 1, 19, 20, 21, 4, 22, 23, 24, 25, 26, 27, 6, 7, 8, 28, 29, 30, 31, 32, 33, 34, 35, 36, 37, 38, 39, 40, 41, 42, 43, 44, 45, 46, 47, 48, 49, 50, 51, 52, 53, 54, 55, 56, 57, 58, 59, 60, 61, 62, 63, 64, 65, 66, 67, 68, 69, 70, 71, 72, 73] (by rfl) (by rfl)
set_option maxRecDepth 20000 in
theorem gX4_setFor_X4_choose : GoodIn wsX4_setFor (wsV RX4 116 RX4 yX4_choose wsX4_choose) := goodIn_app (goodIn_r _ [14, 15, 16, 4] (by rfl) (by rfl)) ggX4_setFor_X4_choose
set_option maxRecDepth 20000 in
theorem ggX4_receipts_X4_fine : GoodIn wsX4_receipts wsX4_fine := goodIn_r _ [6, 7, 8, 9, 10, 11, 12, 13, 14, 15, 16, 17, 18, 19, 20, 21, 22, 23, 24, 25, 26, 27, 28, 29, 30, 31] (by rfl) (by rfl)
set_option maxRecDepth 20000 in
theorem gX4_receipts_X4_fine : GoodIn wsX4_receipts (wsV RX4 137 RX4 yX4_fine wsX4_fine) := goodIn_app (goodIn_r _ [2, 3, 4, 5] (by rfl) (by rfl)) ggX4_receipts_X4_fine
set_option maxRecDepth 20000 in
theorem ggX4_noReceipt_X4_isReceipt : GoodIn wsX4_noReceipt wsX4_isReceipt := goodIn_r _ [5, 6, 7, 8, 4, 9, 15, 16, 17, 18, 19, 20, 21, 22, 23, 24, 25, 26, 27, 28, 29, 30, 31, 32, 33, 34, 35, 36, 37, 38] (by rfl) (by rfl)
set_option maxRecDepth 20000 in
theorem gX4_noReceipt_X4_isReceipt : GoodIn wsX4_noReceipt (wsV RX4 134 RX4 yX4_isReceipt wsX4_isReceipt) := goodIn_app (goodIn_r _ [1, 2, 3, 4] (by rfl) (by rfl)) ggX4_noReceipt_X4_isReceipt
set_option maxRecDepth 20000 in
theorem ggX4_noReceipt_X4_refused : GoodIn wsX4_noReceipt wsX4_refused := goodIn_r _ [13, 14, 15, 16, 17, 18, 19, 20, 21, 22, 23, 24, 25, 26, 27, 28, 29, 30, 31, 32, 33, 34, 35, 36, 37, 38] (by rfl) (by rfl)
set_option maxRecDepth 20000 in
theorem gX4_noReceipt_X4_refused : GoodIn wsX4_noReceipt (wsV RX4 124 RX4 yX4_refused wsX4_refused) := goodIn_app (goodIn_r _ [10, 11, 12, 4] (by rfl) (by rfl)) ggX4_noReceipt_X4_refused
set_option maxRecDepth 20000 in
theorem ggX4_customerOf_X4_noReceipt : GoodIn wsX4_customerOf wsX4_noReceipt := goodIn_r _ [6, 7, 8, 9, 5, 10, 11, 12, 13, 14, 15, 16, 17, 18, 19, 20, 21, 22, 23, 24, 25, 26, 27, 28, 29, 30, 31, 32, 33, 34, 35, 36, 37, 38, 39, 40, 41, 42, 43] (by rfl) (by rfl)
set_option maxRecDepth 20000 in
theorem gX4_customerOf_X4_noReceipt : GoodIn wsX4_customerOf (wsV RX4 143 RX4 yX4_noReceipt wsX4_noReceipt) := goodIn_app (goodIn_r _ [2, 3, 4, 5] (by rfl) (by rfl)) ggX4_customerOf_X4_noReceipt
set_option maxRecDepth 20000 in
theorem ggX4_appliedTo_X4_isReceipt : GoodIn wsX4_appliedTo wsX4_isReceipt := goodIn_r _ [6, 7, 8, 9, 5, 10, 21, 22, 23, 24, 25, 26, 27, 28, 29, 30, 31, 32, 33, 34, 35, 36, 37, 38, 39, 40, 41, 42, 43, 44] (by rfl) (by rfl)
set_option maxRecDepth 20000 in
theorem gX4_appliedTo_X4_isReceipt : GoodIn wsX4_appliedTo (wsV RX4 134 RX4 yX4_isReceipt wsX4_isReceipt) := goodIn_app (goodIn_r _ [2, 3, 4, 5] (by rfl) (by rfl)) ggX4_appliedTo_X4_isReceipt
set_option maxRecDepth 20000 in
theorem ggX4_appliedTo_X4_isBill : GoodIn wsX4_appliedTo wsX4_isBill := goodIn_r _ [14, 15, 8, 9, 5, 10, 21, 22, 23, 24, 25, 26, 27, 28, 29, 30, 31, 32, 33, 34, 35, 36, 37, 38, 39, 40, 41, 42, 43, 44] (by rfl) (by rfl)
set_option maxRecDepth 20000 in
theorem gX4_appliedTo_X4_isBill : GoodIn wsX4_appliedTo (wsV RX4 108 RX4 yX4_isBill wsX4_isBill) := goodIn_app (goodIn_r _ [11, 12, 13, 5] (by rfl) (by rfl)) ggX4_appliedTo_X4_isBill
set_option maxRecDepth 20000 in
theorem ggX4_appliedTo_X4_refused : GoodIn wsX4_appliedTo wsX4_refused := goodIn_r _ [19, 20, 21, 22, 23, 24, 25, 26, 27, 28, 29, 30, 31, 32, 33, 34, 35, 36, 37, 38, 39, 40, 41, 42, 43, 44] (by rfl) (by rfl)
set_option maxRecDepth 20000 in
theorem gX4_appliedTo_X4_refused : GoodIn wsX4_appliedTo (wsV RX4 124 RX4 yX4_refused wsX4_refused) := goodIn_app (goodIn_r _ [16, 17, 18, 5] (by rfl) (by rfl)) ggX4_appliedTo_X4_refused
set_option maxRecDepth 20000 in
theorem ggX4_unapplied_X4_noReceipt : GoodIn wsX4_unapplied wsX4_noReceipt := goodIn_r _ [6, 7, 8, 9, 5, 10, 11, 12, 13, 14, 15, 16, 17, 18, 19, 20, 21, 22, 23, 24, 25, 26, 27, 28, 29, 30, 31, 32, 33, 34, 35, 36, 37, 38, 39, 40, 41, 42, 43] (by rfl) (by rfl)
set_option maxRecDepth 20000 in
theorem gX4_unapplied_X4_noReceipt : GoodIn wsX4_unapplied (wsV RX4 143 RX4 yX4_noReceipt wsX4_noReceipt) := goodIn_app (goodIn_r _ [2, 3, 4, 5] (by rfl) (by rfl)) ggX4_unapplied_X4_noReceipt
set_option maxRecDepth 20000 in
theorem ggX4_hasBounced_X4_noReceipt : GoodIn wsX4_hasBounced wsX4_noReceipt := goodIn_r _ [6, 7, 8, 9, 5, 10, 11, 12, 13, 14, 15, 16, 17, 18, 19, 20, 21, 22, 23, 24, 25, 26, 27, 28, 29, 30, 31, 32, 33, 34, 35, 36, 37, 38, 39, 40, 41, 42, 43] (by rfl) (by rfl)
set_option maxRecDepth 20000 in
theorem gX4_hasBounced_X4_noReceipt : GoodIn wsX4_hasBounced (wsV RX4 143 RX4 yX4_noReceipt wsX4_noReceipt) := goodIn_app (goodIn_r _ [2, 3, 4, 5] (by rfl) (by rfl)) ggX4_hasBounced_X4_noReceipt
set_option maxRecDepth 20000 in
theorem ggX4_day_X4_fine : GoodIn wsX4_day wsX4_fine := goodIn_r _ [6, 7, 8, 9, 10, 11, 12, 13, 14, 15, 16, 17, 18, 19, 20, 21, 22, 23, 24, 25, 26, 27, 28, 29, 30, 31] (by rfl) (by rfl)
set_option maxRecDepth 20000 in
theorem gX4_day_X4_fine : GoodIn wsX4_day (wsV RX4 137 RX4 yX4_fine wsX4_fine) := goodIn_app (goodIn_r _ [2, 3, 4, 5] (by rfl) (by rfl)) ggX4_day_X4_fine
set_option maxRecDepth 20000 in
theorem ggX4_received_X4_all : GoodIn wsX4_received wsX4_all := goodIn_r _ [6, 7, 13, 14, 15, 16, 17, 18, 19, 20, 21, 22, 23, 24, 25, 26, 27, 28, 29, 30, 31, 32, 33, 34, 35, 36] (by rfl) (by rfl)
set_option maxRecDepth 20000 in
theorem gX4_received_X4_all : GoodIn wsX4_received (wsV RX4 146 RX4 yX4_all wsX4_all) := goodIn_app (goodIn_r _ [2, 3, 4, 5] (by rfl) (by rfl)) ggX4_received_X4_all
set_option maxRecDepth 20000 in
theorem ggX4_received_X4_fine : GoodIn wsX4_received wsX4_fine := goodIn_r _ [11, 12, 13, 14, 15, 16, 17, 18, 19, 20, 21, 22, 23, 24, 25, 26, 27, 28, 29, 30, 31, 32, 33, 34, 35, 36] (by rfl) (by rfl)
set_option maxRecDepth 20000 in
theorem gX4_received_X4_fine : GoodIn wsX4_received (wsV RX4 137 RX4 yX4_fine wsX4_fine) := goodIn_app (goodIn_r _ [8, 9, 10, 5] (by rfl) (by rfl)) ggX4_received_X4_fine
set_option maxRecDepth 20000 in
theorem ggX4_applied_X4_all : GoodIn wsX4_applied wsX4_all := goodIn_r _ [8, 9, 20, 21, 22, 23, 24, 25, 26, 27, 28, 29, 30, 31, 32, 33, 34, 35, 36, 37, 38, 39, 40, 41, 42, 43] (by rfl) (by rfl)
set_option maxRecDepth 20000 in
theorem gX4_applied_X4_all : GoodIn wsX4_applied (wsV RX4 146 RX4 yX4_all wsX4_all) := goodIn_app (goodIn_r _ [4, 5, 6, 7] (by rfl) (by rfl)) ggX4_applied_X4_all
set_option maxRecDepth 20000 in
theorem ggX4_applied_X4_allBounced : GoodIn wsX4_applied wsX4_allBounced := goodIn_r _ [13, 9, 14, 1, 20, 21, 22, 23, 24, 25, 26, 27, 28, 29, 30, 31, 32, 33, 34, 35, 36, 37, 38, 39, 40, 41, 42, 43] (by rfl) (by rfl)
set_option maxRecDepth 20000 in
theorem gX4_applied_X4_allBounced : GoodIn wsX4_applied (wsV RX4 150 RX4 yX4_allBounced wsX4_allBounced) := goodIn_app (goodIn_r _ [10, 11, 12, 7] (by rfl) (by rfl)) ggX4_applied_X4_allBounced
set_option maxRecDepth 20000 in
theorem ggX4_applied_X4_fine : GoodIn wsX4_applied wsX4_fine := goodIn_r _ [18, 19, 20, 21, 22, 23, 24, 25, 26, 27, 28, 29, 30, 31, 32, 33, 34, 35, 36, 37, 38, 39, 40, 41, 42, 43] (by rfl) (by rfl)
set_option maxRecDepth 20000 in
theorem gX4_applied_X4_fine : GoodIn wsX4_applied (wsV RX4 137 RX4 yX4_fine wsX4_fine) := goodIn_app (goodIn_r _ [15, 16, 17, 7] (by rfl) (by rfl)) ggX4_applied_X4_fine
set_option maxRecDepth 20000 in
theorem ggX4_allUnapplied_X4_all : GoodIn wsX4_allUnapplied wsX4_all := goodIn_r _ [6, 7, 13, 14, 15, 16, 17, 18, 19, 20, 21, 22, 23, 24, 25, 26, 27, 28, 29, 30, 31, 32, 33, 34, 35, 36] (by rfl) (by rfl)
set_option maxRecDepth 20000 in
theorem gX4_allUnapplied_X4_all : GoodIn wsX4_allUnapplied (wsV RX4 146 RX4 yX4_all wsX4_all) := goodIn_app (goodIn_r _ [2, 3, 4, 5] (by rfl) (by rfl)) ggX4_allUnapplied_X4_all
set_option maxRecDepth 20000 in
theorem ggX4_allUnapplied_X4_fine : GoodIn wsX4_allUnapplied wsX4_fine := goodIn_r _ [11, 12, 13, 14, 15, 16, 17, 18, 19, 20, 21, 22, 23, 24, 25, 26, 27, 28, 29, 30, 31, 32, 33, 34, 35, 36] (by rfl) (by rfl)
set_option maxRecDepth 20000 in
theorem gX4_allUnapplied_X4_fine : GoodIn wsX4_allUnapplied (wsV RX4 137 RX4 yX4_fine wsX4_fine) := goodIn_app (goodIn_r _ [8, 9, 10, 5] (by rfl) (by rfl)) ggX4_allUnapplied_X4_fine
set_option maxRecDepth 20000 in
theorem ggX4_paidBack_X4_all : GoodIn wsX4_paidBack wsX4_all := goodIn_r _ [6, 7, 13, 14, 15, 16, 17, 18, 19, 20, 21, 22, 23, 24, 25, 26, 27, 28, 29, 30, 31, 32, 33, 34, 35, 36] (by rfl) (by rfl)
set_option maxRecDepth 20000 in
theorem gX4_paidBack_X4_all : GoodIn wsX4_paidBack (wsV RX4 146 RX4 yX4_all wsX4_all) := goodIn_app (goodIn_r _ [2, 3, 4, 5] (by rfl) (by rfl)) ggX4_paidBack_X4_all
set_option maxRecDepth 20000 in
theorem ggX4_paidBack_X4_fine : GoodIn wsX4_paidBack wsX4_fine := goodIn_r _ [11, 12, 13, 14, 15, 16, 17, 18, 19, 20, 21, 22, 23, 24, 25, 26, 27, 28, 29, 30, 31, 32, 33, 34, 35, 36] (by rfl) (by rfl)
set_option maxRecDepth 20000 in
theorem gX4_paidBack_X4_fine : GoodIn wsX4_paidBack (wsV RX4 137 RX4 yX4_fine wsX4_fine) := goodIn_app (goodIn_r _ [8, 9, 10, 5] (by rfl) (by rfl)) ggX4_paidBack_X4_fine
set_option maxRecDepth 20000 in
theorem ggX4_bounced_X4_allBounced : GoodIn wsX4_bounced wsX4_allBounced := goodIn_r _ [5, 6, 7, 8, 14, 15, 16, 17, 18, 19, 20, 21, 22, 23, 24, 25, 26, 27, 28, 29, 30, 31, 32, 33, 34, 35, 36, 37] (by rfl) (by rfl)
set_option maxRecDepth 20000 in
theorem gX4_bounced_X4_allBounced : GoodIn wsX4_bounced (wsV RX4 150 RX4 yX4_allBounced wsX4_allBounced) := goodIn_app (goodIn_r _ [1, 2, 3, 4] (by rfl) (by rfl)) ggX4_bounced_X4_allBounced
set_option maxRecDepth 20000 in
theorem ggX4_bounced_X4_fine : GoodIn wsX4_bounced wsX4_fine := goodIn_r _ [12, 13, 14, 15, 16, 17, 18, 19, 20, 21, 22, 23, 24, 25, 26, 27, 28, 29, 30, 31, 32, 33, 34, 35, 36, 37] (by rfl) (by rfl)
set_option maxRecDepth 20000 in
theorem gX4_bounced_X4_fine : GoodIn wsX4_bounced (wsV RX4 137 RX4 yX4_fine wsX4_fine) := goodIn_app (goodIn_r _ [9, 10, 11, 4] (by rfl) (by rfl)) ggX4_bounced_X4_fine
end
section
/-! The ways of this proof: what a contract says of a world, and one row for a call. -/
/-- a table of columns: column k, place i -/
def pt (F : Nat → Nat → Int32) (k i : Nat) (x : Int32) : Nat → Nat → Int32 := fun j => if j = k then upd (F k) i x else F j
theorem pt_s {F : Nat → Nat → Int32} {k i : Nat} {x : Int32} : pt F k i x k i = x := by simp [pt, upd]
theorem pt_o {F : Nat → Nat → Int32} {k i k' i' : Nat} {x : Int32} (h : ¬ (k' = k ∧ i' = i)) : pt F k i x k' i' = F k' i' := by
  unfold pt
  by_cases e : k' = k
  · subst e
    by_cases e2 : i' = i
    · exact absurd ⟨rfl, e2⟩ h
    · simp [upd, e2]
  · simp [e]
theorem pt_at (F : Nat → Nat → Int32) (k i k' i' : Nat) (x : Int32) : pt F k i x k' i' = if k' = k ∧ i' = i then x else F k' i' := by
  by_cases e : k' = k ∧ i' = i
  · obtain ⟨rfl, rfl⟩ := e
    simp [pt_s]
  · rw [pt_o e, if_neg e]
abbrev tyl (cI cZ : ClassId) : List (ClassId × FieldType) := [(cI, .int), (cZ, .boolean)]
/-- a start over the world WS, of a heap of sz cells -/
def PreW (D : va_G) (cI cZ : ClassId) (WS : va_W) (sz : Nat) (U : State) : Prop := U.heap.size = sz ∧ va_P D vwCl WS U.heap ∧ va_K D vwCl (tyl cI cZ) U ∧ va_D (fun _ => True) WS
/-- an end over the world WS -/
def PostW (D : va_G) (cI cZ : ClassId) (A : Nat → Prop) (WS : va_W) (t : State) : Prop := va_P D vwCl WS t.heap ∧ va_K D vwCl (tyl cI cZ) t ∧ va_D A WS
theorem PreW.blind {D : va_G} {cI cZ : ClassId} {WS : va_W} {sz : Nat} {av : List Value} : FrameBlind (va_Pc av (PreW D cI cZ WS sz)) := fun a U g mk q => by
  obtain ⟨q0, q1, q2, q3, q4⟩ := q
  exact ⟨q0, q1, q2, va_K.moved (u := U) (U := U.calling g mk a) (Vm.Alike.refl U.vm) q3, q4⟩
theorem fm_of {α β : Type} {f : α → Option β} : ∀ {is : List α} {l : List β}, is.map f = l.map some → is.filterMap f = l
  | [], [], _ => rfl
  | [], _ :: _, h => by cases h
  | _ :: _, [], h => by cases h
  | i :: is, x :: l, h => by
    simp only [List.map_cons, List.cons.injEq] at h
    rw [List.filterMap_cons, h.1, fm_of h.2]
/-- how a world wf is put together again: wr beside what the callee left, in the order of ks -/
theorem wj {A0 : Nat → Prop} {D : va_G} {ws wc wr w1 wf : va_W} {H H1 : Heap} (hP : va_P D vwCl ws H) (hD : va_D A0 ws) (isC isR ks : List Nat) (hC : isC.map (fun i => ws[i]?) = wc.map some) (hR : isR.map (fun i => ws[i]?) = wr.map some) (hn : va_nd isR = true) (hdis : ∀ i ∈ isR, i ∉ isC) (hk2 : va_nd ks = true) (hks : ks.map (fun i => (wr ++ w1)[i]?) = wf.map some)
    (hk : ∀ q : Nat, q < H.size → ¬ va_A wc H.size q → H1[q]? = H[q]?) (hF : ∀ q, va_A wc H.size q → A0 q) (hP1 : va_P D vwCl w1 H1) (hD1 : va_D (va_A wc H.size) w1) : va_P D vwCl wf H1 ∧ va_D A0 wf := by
  obtain ⟨h1, h2⟩ := va_join hP hD isC isR hC hR hn hdis hk hF hP1 hD1
  exact ⟨h1.sub ks (fm_of hks), h2.sub ks hk2 hks⟩
section ZC
variable {p : Program} {l : Launch} {e : Env} {R : Room} {s : State} {m : MethodId} {args : Array Value} {below : List Frame} {meth : Method} {c : Code} {H : Heap} {locs : List Loc} {cells slots : Nat} {Q : State → Prop}
variable {y : MethodName} {bytes cc : ByteArray} {maxL nL mc ms n index : Nat} {ret : Option FieldType} {wsy : List Cond} {rm : Room} {Ts : List Cond} {own C : String} {b : Addr} {As rest st0 : List Value} {pc : Nat} {ls : Array Slot}
variable {D : va_G} {cI cZ : ClassId} {ws wc wr wf0 : va_W} {A : Nat → Prop} {H0 : Heap}
/-- the world that a call gets, and that it gives back -/
abbrev ZW (D : va_G) (A : Nat → Prop) (H0 : Heap) (ws wc wr : va_W) (H : Heap) (locs : List Loc) (isC isR : List Nat) : Prop :=
  va_P D vwCl ws H ∧ va_D A ws ∧ va_S A H0 H locs ∧ (∀ q, H0.size ≤ q → A q) ∧ va_nd isC = true ∧ va_nd isR = true ∧ (∀ i ∈ isR, i ∉ isC) ∧ isC.map (fun i => ws[i]?) = wc.map some ∧ isR.map (fun i => ws[i]?) = wr.map some
theorem zw_free {isC isR : List Nat} (z : ZW D A H0 ws wc wr H locs isC isR) : ∀ q, va_A wc H.size q → A q := va_free z.2.1 z.2.2.1 z.2.2.2.1 isC z.2.2.2.2.2.2.2.1
theorem zw_pre {isC isR : List Nat} (z : ZW D A H0 ws wc wr H locs isC isR) (hK : va_K D vwCl (tyl cI cZ) s) {U : State} (hU : U.heap = H) (hW : s.WarmedH U.vm) : PreW D cI cZ wc H.size U :=
  ⟨by rw [hU], by rw [hU]; exact z.1.sub isC (fm_of z.2.2.2.2.2.2.2.1), va_K.moved hW.alike hK, (z.2.1.sub isC z.2.2.2.2.1 z.2.2.2.2.2.2.2.1).weaken (fun _ _ _ _ => trivial)⟩
theorem zw_recv {isC isR : List Nat} (z : ZW D A H0 ws wc wr H locs isC isR) (hK : va_K D vwCl (tyl cI cZ) s) {ci q0 : Nat} {q : vw_C} {fs : List Value} (hc : vwCl[ci]? = some q) (he : wc[q0]? = some (b, .inr (ci, fs))) : ∃ cell : Cell, H[b]? = some cell ∧ cell.vm.isStatics = false ∧ s.vm.findClass q.1 = some cell.cls :=
  va_recv hK (z.1.sub isC (fm_of z.2.2.2.2.2.2.2.1)) hc he
/-- a call of an own method that answers an int -/
theorem zcVi {S : Type} {post : Int32 → S → Prop} {w1 wf : S → va_W} {isC isR : List Nat} (ks : List Nat) {ci q0 : Nat} {q : vw_C} {fs : List Value} (F : CallFix p m c cc nL s args Ts own) (z : ZW D A H0 ws wc wr H locs isC isR) (hK : va_K D vwCl (tyl cI cZ) s)
    (hM : Met l y wsy rm (va_Pc (.ref b :: As) (PreW D cI cZ wc H.size)) (va_Qi post (fun u => PostW D cI cZ (va_A wc H.size) (w1 u)) (va_A wc H.size)) mc ms (va_A wc H.size))
    (cw : CallW R s args own q.1 index y bytes maxL ret wsy rm mc ms n) (hc : vwCl[ci]? = some q) (he : wc[q0]? = some (b, .inr (ci, fs)))
    (hk2 : va_nd ks = true) (hks : ∀ u, ks.map (fun i => (wr ++ w1 u)[i]?) = (wf u).map some)
    (hn : As.length = n) (hl : ls.size = nL) (hst : st0 = As.reverse ++ .ref b :: rest) (hroom : (rest.map fun v => v.category).sum ≤ 8) (hdg : decode cc pc = .ok (.invokevirtual index, 3)) (hf : cells + mc ≤ R.cells ∧ slots + ms ≤ R.slots)
    (kk : ∀ (r : Int32) (u : S) (H1 : Heap) (locs1 : List Loc), post r u → va_P D vwCl (wf u) H1 → va_D A (wf u) → va_S A H0 H1 locs1 → W p l e R s m args below meth c H1 locs1 (cells + mc) (slots + ms) Q (F0 m (pc + 3) ls (.int r :: rest))) : W p l e R s m args below meth c H locs cells slots Q (F0 m pc ls st0) := by
  subst hst
  refine va_calli (va_runV (rest := rest) F hM cw ⟨PreW.blind, zw_recv z hK hc he, fun U hU hW => ⟨rfl, zw_pre z hK hU hW⟩⟩ rfl hn hl rfl (lv_room hroom) hdg hf) z.2.2.1 (fun q _ h => zw_free z q h) (zw_free z) (fun r u t H1 locs1 ht hvm hw hB hz1 hk1 hS => ?_)
  obtain ⟨hP1, hK1, hD1⟩ := hB
  rw [ht] at hP1
  obtain ⟨h1, h2⟩ := wj z.1 z.2.1 isC isR ks z.2.2.2.2.2.2.2.1 z.2.2.2.2.2.2.2.2 z.2.2.2.2.2.1 z.2.2.2.2.2.2.1 hk2 (hks u) hk1 (zw_free z) hP1 hD1
  exact kk r u H1 locs1 hw h1 h2 hS
theorem zcVv {S : Type} {post : S → Prop} {w1 wf : S → va_W} {isC isR : List Nat} (ks : List Nat) {ci q0 : Nat} {q : vw_C} {fs : List Value} (F : CallFix p m c cc nL s args Ts own) (z : ZW D A H0 ws wc wr H locs isC isR) (hK : va_K D vwCl (tyl cI cZ) s)
    (hM : Met l y wsy rm (va_Pc (.ref b :: As) (PreW D cI cZ wc H.size)) (va_Qv post (fun u => PostW D cI cZ (va_A wc H.size) (w1 u)) (va_A wc H.size)) mc ms (va_A wc H.size))
    (cw : CallW R s args own q.1 index y bytes maxL ret wsy rm mc ms n) (hc : vwCl[ci]? = some q) (he : wc[q0]? = some (b, .inr (ci, fs)))
    (hk2 : va_nd ks = true) (hks : ∀ u, ks.map (fun i => (wr ++ w1 u)[i]?) = (wf u).map some)
    (hn : As.length = n) (hl : ls.size = nL) (hst : st0 = As.reverse ++ .ref b :: rest) (hroom : (rest.map fun v => v.category).sum ≤ 8) (hdg : decode cc pc = .ok (.invokevirtual index, 3)) (hf : cells + mc ≤ R.cells ∧ slots + ms ≤ R.slots)
    (kk : ∀ (u : S) (H1 : Heap) (locs1 : List Loc), post u → va_P D vwCl (wf u) H1 → va_D A (wf u) → va_S A H0 H1 locs1 → W p l e R s m args below meth c H1 locs1 (cells + mc) (slots + ms) Q (F0 m (pc + 3) ls rest)) : W p l e R s m args below meth c H locs cells slots Q (F0 m pc ls st0) := by
  subst hst
  refine va_callv (va_runV (rest := rest) F hM cw ⟨PreW.blind, zw_recv z hK hc he, fun U hU hW => ⟨rfl, zw_pre z hK hU hW⟩⟩ rfl hn hl rfl (lv_room hroom) hdg hf) z.2.2.1 (fun q _ h => zw_free z q h) (zw_free z) (fun u t H1 locs1 ht hvm hw hB hz1 hk1 hS => ?_)
  obtain ⟨hP1, hK1, hD1⟩ := hB
  rw [ht] at hP1
  obtain ⟨h1, h2⟩ := wj z.1 z.2.1 isC isR ks z.2.2.2.2.2.2.2.1 z.2.2.2.2.2.2.2.2 z.2.2.2.2.2.1 z.2.2.2.2.2.2.1 hk2 (hks u) hk1 (zw_free z) hP1 hD1
  exact kk u H1 locs1 hw h1 h2 hS
/-- a static call -/
theorem zcSi {S : Type} {post : Int32 → S → Prop} {w1 wf : S → va_W} {isC isR : List Nat} (ks : List Nat) (F : CallFix p m c cc nL s args Ts own) (z : ZW D A H0 ws wc wr H locs isC isR) (hK : va_K D vwCl (tyl cI cZ) s)
    (hM : Met l y wsy rm (va_Pc As (PreW D cI cZ wc H.size)) (va_Qi post (fun u => PostW D cI cZ (va_A wc H.size) (w1 u)) (va_A wc H.size)) mc ms (va_A wc H.size))
    (cw : CallB R s args own index y bytes maxL ret wsy rm mc ms n ∧ (Cond.static y).before args s = true)
    (hk2 : va_nd ks = true) (hks : ∀ u, ks.map (fun i => (wr ++ w1 u)[i]?) = (wf u).map some)
    (hn : As.length = n) (hl : ls.size = nL) (hst : st0 = As.reverse ++ rest) (hroom : (rest.map fun v => v.category).sum ≤ 8) (hdg : decode cc pc = .ok (.invokestatic index, 3)) (hf : cells + mc ≤ R.cells ∧ slots + ms ≤ R.slots)
    (kk : ∀ (r : Int32) (u : S) (H1 : Heap) (locs1 : List Loc), post r u → va_P D vwCl (wf u) H1 → va_D A (wf u) → va_S A H0 H1 locs1 → W p l e R s m args below meth c H1 locs1 (cells + mc) (slots + ms) Q (F0 m (pc + 3) ls (.int r :: rest))) : W p l e R s m args below meth c H locs cells slots Q (F0 m pc ls st0) := by
  subst hst
  refine va_calli (va_runS (rest := rest) F hM cw ⟨PreW.blind, fun U hU hW => ⟨rfl, zw_pre z hK hU hW⟩⟩ rfl hn hl rfl (lv_room hroom) hdg hf) z.2.2.1 (fun q _ h => zw_free z q h) (zw_free z) (fun r u t H1 locs1 ht hvm hw hB hz1 hk1 hS => ?_)
  obtain ⟨hP1, hK1, hD1⟩ := hB
  rw [ht] at hP1
  obtain ⟨h1, h2⟩ := wj z.1 z.2.1 isC isR ks z.2.2.2.2.2.2.2.1 z.2.2.2.2.2.2.2.2 z.2.2.2.2.2.1 z.2.2.2.2.2.2.1 hk2 (hks u) hk1 (zw_free z) hP1 hD1
  exact kk r u H1 locs1 hw h1 h2 hS
theorem zcSv {S : Type} {post : S → Prop} {w1 wf : S → va_W} {isC isR : List Nat} (ks : List Nat) (F : CallFix p m c cc nL s args Ts own) (z : ZW D A H0 ws wc wr H locs isC isR) (hK : va_K D vwCl (tyl cI cZ) s)
    (hM : Met l y wsy rm (va_Pc As (PreW D cI cZ wc H.size)) (va_Qv post (fun u => PostW D cI cZ (va_A wc H.size) (w1 u)) (va_A wc H.size)) mc ms (va_A wc H.size))
    (cw : CallB R s args own index y bytes maxL ret wsy rm mc ms n ∧ (Cond.static y).before args s = true)
    (hk2 : va_nd ks = true) (hks : ∀ u, ks.map (fun i => (wr ++ w1 u)[i]?) = (wf u).map some)
    (hn : As.length = n) (hl : ls.size = nL) (hst : st0 = As.reverse ++ rest) (hroom : (rest.map fun v => v.category).sum ≤ 8) (hdg : decode cc pc = .ok (.invokestatic index, 3)) (hf : cells + mc ≤ R.cells ∧ slots + ms ≤ R.slots)
    (kk : ∀ (u : S) (H1 : Heap) (locs1 : List Loc), post u → va_P D vwCl (wf u) H1 → va_D A (wf u) → va_S A H0 H1 locs1 → W p l e R s m args below meth c H1 locs1 (cells + mc) (slots + ms) Q (F0 m (pc + 3) ls rest)) : W p l e R s m args below meth c H locs cells slots Q (F0 m pc ls st0) := by
  subst hst
  refine va_callv (va_runS (rest := rest) F hM cw ⟨PreW.blind, fun U hU hW => ⟨rfl, zw_pre z hK hU hW⟩⟩ rfl hn hl rfl (lv_room hroom) hdg hf) z.2.2.1 (fun q _ h => zw_free z q h) (zw_free z) (fun u t H1 locs1 ht hvm hw hB hz1 hk1 hS => ?_)
  obtain ⟨hP1, hK1, hD1⟩ := hB
  rw [ht] at hP1
  obtain ⟨h1, h2⟩ := wj z.1 z.2.1 isC isR ks z.2.2.2.2.2.2.2.1 z.2.2.2.2.2.2.2.2 z.2.2.2.2.2.1 z.2.2.2.2.2.2.1 hk2 (hks u) hk1 (zw_free z) hP1 hD1
  exact kk u H1 locs1 hw h1 h2 hS
/-- a constructor's call -/
theorem zcIv {S : Type} {post : S → Prop} {w1 wf : S → va_W} {isC isR : List Nat} (ks : List Nat) (F : CallFix p m c cc nL s args Ts own) (z : ZW D A H0 ws wc wr H locs isC isR) (hK : va_K D vwCl (tyl cI cZ) s)
    (hM : Met l y wsy rm (va_Pc (.ref b :: As) (PreW D cI cZ wc H.size)) (va_Qv post (fun u => PostW D cI cZ (va_A wc H.size) (w1 u)) (va_A wc H.size)) mc ms (va_A wc H.size))
    (cw : CallB R s args own index y bytes maxL none wsy rm mc ms n ∧ y.name = "<init>" ∧ (Cond.instanceMethod y).before args s = true)
    (hk2 : va_nd ks = true) (hks : ∀ u, ks.map (fun i => (wr ++ w1 u)[i]?) = (wf u).map some)
    (hn : As.length = n) (hl : ls.size = nL) (hst : st0 = As.reverse ++ .ref b :: rest) (hroom : (rest.map fun v => v.category).sum ≤ 8) (hdg : decode cc pc = .ok (.invokespecial index, 3)) (hf : cells + mc ≤ R.cells ∧ slots + ms ≤ R.slots)
    (kk : ∀ (u : S) (H1 : Heap) (locs1 : List Loc), post u → va_P D vwCl (wf u) H1 → va_D A (wf u) → va_S A H0 H1 locs1 → W p l e R s m args below meth c H1 locs1 (cells + mc) (slots + ms) Q (F0 m (pc + 3) ls rest)) : W p l e R s m args below meth c H locs cells slots Q (F0 m pc ls st0) := by
  subst hst
  refine va_callv (va_runI (rest := rest) F hM cw ⟨PreW.blind, fun U hU hW => ⟨rfl, zw_pre z hK hU hW⟩⟩ rfl hn hl rfl (lv_room hroom) hdg hf) z.2.2.1 (fun q _ h => zw_free z q h) (zw_free z) (fun u t H1 locs1 ht hvm hw hB hz1 hk1 hS => ?_)
  obtain ⟨hP1, hK1, hD1⟩ := hB
  rw [ht] at hP1
  obtain ⟨h1, h2⟩ := wj z.1 z.2.1 isC isR ks z.2.2.2.2.2.2.2.1 z.2.2.2.2.2.2.2.2 z.2.2.2.2.2.1 z.2.2.2.2.2.2.1 hk2 (hks u) hk1 (zw_free z) hP1 hD1
  exact kk u H1 locs1 hw h1 h2 hS
end ZC
section ZR
variable {p : Program} {l : Launch} {e : Env} {R : Room} {s : State} {m : MethodId} {args : Array Value} {below : List Frame} {meth : Method} {c : Code} {H : Heap} {locs : List Loc} {cells slots : Nat} {Q : State → Prop}
variable {cc : ByteArray} {pc : Nat} {ls : Array Slot} {rest : List Value} {D : va_G} {A : Nat → Prop} {a : Nat} {cI cZ : ClassId} {ws : va_W} {H0 : Heap}
/-- reads and writes of an array of ints at the place i -/
theorem zald (hexec : p.tables.exec = Jvm.exec) (hb : c.code = cc) (hK : va_K D vwCl (tyl cI cZ) s) (hP : va_P D vwCl ws H) (q0 : Nat) {n : Nat} {f : Nat → Int32} (ha : ws[q0]? = some (a, .inl (cI, n, .inl f))) {x : Int32} (i : Nat) (hxi : x = nI i) (hi : i < n) (hn : n < 2 ^ 31) (hdg : decode cc pc = .ok (.iaload, 1))
    (kk : W p l e R s m args below meth c H locs cells slots Q (F0 m (pc + 1) ls (.int (f i) :: rest))) : W p l e R s m args below meth c H locs cells slots Q (F0 m pc ls (.int x :: .ref a :: rest)) := by
  subst hxi
  refine va_iald hexec hb hK hP q0 0 ha rfl (vp_in_nI hi hn) hdg ?_
  rw [nI_clamp (Nat.lt_trans hi hn)]
  exact kk
theorem zbld (hexec : p.tables.exec = Jvm.exec) (hb : c.code = cc) (hK : va_K D vwCl (tyl cI cZ) s) (hP : va_P D vwCl ws H) (q0 : Nat) {n : Nat} {f : Nat → Int32} (ha : ws[q0]? = some (a, .inl (cZ, n, .inl f))) {x : Int32} (i : Nat) (hxi : x = nI i) (hi : i < n) (hn : n < 2 ^ 31) (hdg : decode cc pc = .ok (.baload, 1))
    (kk : W p l e R s m args below meth c H locs cells slots Q (F0 m (pc + 1) ls (.int (f i) :: rest))) : W p l e R s m args below meth c H locs cells slots Q (F0 m pc ls (.int x :: .ref a :: rest)) := by
  subst hxi
  refine va_zald hexec hb hK hP q0 1 ha rfl (vp_in_nI hi hn) hdg ?_
  rw [nI_clamp (Nat.lt_trans hi hn)]
  exact kk
theorem zast (hexec : p.tables.exec = Jvm.exec) (hb : c.code = cc) (hK : va_K D vwCl (tyl cI cZ) s) (hP : va_P D vwCl ws H) (hD : va_D A ws) (hS : va_S A H0 H locs) (q0 : Nat) {n : Nat} {f : Nat → Int32} (ha : ws[q0]? = some (a, .inl (cI, n, .inl f))) {x v : Int32} (i : Nat) (hxi : x = nI i) (hi : i < n) (hn : n < 2 ^ 31) (wf : va_W) (hwf : ws.set q0 (a, .inl (cI, n, .inl (upd f i v))) = wf) (hdg : decode cc pc = .ok (.iastore, 1))
    (kk : ∀ (H1 : Heap) (locs1 : List Loc), va_P D vwCl wf H1 → va_D A wf → va_S A H0 H1 locs1 → W p l e R s m args below meth c H1 locs1 cells slots Q (F0 m (pc + 1) ls rest)) : W p l e R s m args below meth c H locs cells slots Q (F0 m pc ls (.int v :: .int x :: .ref a :: rest)) := by
  subst hxi
  subst hwf
  refine va_iast hexec hb hK hP hD hS q0 0 ha rfl (vp_in_nI hi hn) hdg ?_
  rw [nI_clamp (Nat.lt_trans hi hn)]
  exact kk
theorem zbst (hexec : p.tables.exec = Jvm.exec) (hb : c.code = cc) (hK : va_K D vwCl (tyl cI cZ) s) (hP : va_P D vwCl ws H) (hD : va_D A ws) (hS : va_S A H0 H locs) (q0 : Nat) {n : Nat} {f : Nat → Int32} (ha : ws[q0]? = some (a, .inl (cZ, n, .inl f))) {x v : Int32} (i : Nat) (hxi : x = nI i) (hi : i < n) (hn : n < 2 ^ 31) (hv : vp_nar .boolean v = v) (wf : va_W) (hwf : ws.set q0 (a, .inl (cZ, n, .inl (upd f i v))) = wf) (hdg : decode cc pc = .ok (.bastore, 1))
    (kk : ∀ (H1 : Heap) (locs1 : List Loc), va_P D vwCl wf H1 → va_D A wf → va_S A H0 H1 locs1 → W p l e R s m args below meth c H1 locs1 cells slots Q (F0 m (pc + 1) ls rest)) : W p l e R s m args below meth c H locs cells slots Q (F0 m pc ls (.int v :: .int x :: .ref a :: rest)) := by
  subst hxi
  subst hwf
  refine va_zast hexec hb hK hP hD hS q0 1 ha rfl (vp_in_nI hi hn) hdg ?_
  rw [nI_clamp (Nat.lt_trans hi hn), hv]
  exact kk
end ZR

/-! The worlds. A BillBook at (a 1), its columns at (a 2) and on; a ReceiptBook at (a 13), an ExactSet at (a 22), the CashAllocator at (a 0). Column k of a table is the field of that place; a number field k stands at place 0 of column k. -/
def wBB (a : Nat → Nat) (cI : ClassId) (B : Nat → Nat → Int32) : va_W := [(a 1, .inr (0, [.ref (a 2), .ref (a 3), .ref (a 4), .ref (a 5), .ref (a 6), .ref (a 7), .ref (a 8), .ref (a 9), .ref (a 10), .ref (a 11), .ref (a 12), .int (B 11 0)])), (a 2, .inl (cI, 40, .inl (B 0))), (a 3, .inl (cI, 40, .inl (B 1))), (a 4, .inl (cI, 40, .inl (B 2))), (a 5, .inl (cI, 40, .inl (B 3))), (a 6, .inl (cI, 40, .inl (B 4))), (a 7, .inl (cI, 40, .inl (B 5))), (a 8, .inl (cI, 40, .inl (B 6))), (a 9, .inl (cI, 40, .inl (B 7))), (a 10, .inl (cI, 40, .inl (B 8))), (a 11, .inl (cI, 40, .inl (B 9))), (a 12, .inl (cI, 40, .inl (B 10)))]
def wRB (a : Nat → Nat) (cI cZ : ClassId) (R : Nat → Nat → Int32) : va_W := [(a 13, .inr (2, [.ref (a 14), .ref (a 15), .ref (a 16), .ref (a 17), .ref (a 18), .ref (a 19), .ref (a 20), .ref (a 21), .int (R 8 0)])), (a 14, .inl (cI, 30, .inl (R 0))), (a 15, .inl (cI, 30, .inl (R 1))), (a 16, .inl (cI, 30, .inl (R 2))), (a 17, .inl (cI, 30, .inl (R 3))), (a 18, .inl (cI, 30, .inl (R 4))), (a 19, .inl (cZ, 30, .inl (R 5))), (a 20, .inl (cI, 1200, .inl (R 6))), (a 21, .inl (cZ, 1200, .inl (R 7)))]
def wES (a : Nat → Nat) (cI : ClassId) (E : Nat → Nat → Int32) : va_W := [(a 22, .inr (1, [.ref (a 23), .ref (a 24), .ref (a 25), .int (E 3 0)])), (a 23, .inl (cI, 40, .inl (E 0))), (a 24, .inl (cI, 40, .inl (E 1))), (a 25, .inl (cI, 3, .inl (E 2)))]
def wC0 (a : Nat → Nat) (td : Int32) : Nat × va_E := (a 0, .inr (3, [.ref (a 1), .ref (a 13), .ref (a 22), .int td]))
def wCA (a : Nat → Nat) (cI cZ : ClassId) (B R E : Nat → Nat → Int32) (td : Int32) : va_W := wC0 a td :: (wBB a cI B ++ (wRB a cI cZ R ++ wES a cI E))
/-- the reference: at (a 0), its columns at (a 1) and on -/
def wM (a : Nat → Nat) (cI cZ : ClassId) (M : Nat → Nat → Int32) : va_W := [(a 0, .inr (4, [.int (M 0 0), .int (M 1 0), .int (M 2 0), .ref (a 1), .ref (a 2), .ref (a 3), .ref (a 4), .ref (a 5), .ref (a 6), .ref (a 7), .ref (a 8), .ref (a 9), .ref (a 10), .ref (a 11), .ref (a 12), .int (M 15 0), .ref (a 13), .ref (a 14), .ref (a 15), .ref (a 16), .ref (a 17), .ref (a 18), .ref (a 19), .ref (a 20)])), (a 1, .inl (cI, 40, .inl (M 3))), (a 2, .inl (cI, 40, .inl (M 4))), (a 3, .inl (cI, 40, .inl (M 5))), (a 4, .inl (cI, 40, .inl (M 6))), (a 5, .inl (cI, 40, .inl (M 7))), (a 6, .inl (cI, 40, .inl (M 8))), (a 7, .inl (cI, 40, .inl (M 9))), (a 8, .inl (cI, 40, .inl (M 10))), (a 9, .inl (cI, 40, .inl (M 11))), (a 10, .inl (cI, 40, .inl (M 12))), (a 11, .inl (cI, 40, .inl (M 13))), (a 12, .inl (cI, 40, .inl (M 14))), (a 13, .inl (cI, 30, .inl (M 16))), (a 14, .inl (cI, 30, .inl (M 17))), (a 15, .inl (cI, 30, .inl (M 18))), (a 16, .inl (cI, 30, .inl (M 19))), (a 17, .inl (cZ, 30, .inl (M 20))), (a 18, .inl (cI, 1200, .inl (M 21))), (a 19, .inl (cZ, 1200, .inl (M 22))), (a 20, .inl (cI, 3, .inl (M 23)))]
section ZP
variable {D : va_G} {cI cZ : ClassId} {a : Nat → Nat} {B R E : Nat → Nat → Int32} {td : Int32} {A : Nat → Prop} {H0 H : Heap} {locs : List Loc}
abbrev isBB : List Nat := [1, 2, 3, 4, 5, 6, 7, 8, 9, 10, 11, 12]
abbrev irBB : List Nat := [0, 13, 14, 15, 16, 17, 18, 19, 20, 21, 22, 23, 24, 25]
abbrev ksBB : List Nat := [0, 14, 15, 16, 17, 18, 19, 20, 21, 22, 23, 24, 25, 1, 2, 3, 4, 5, 6, 7, 8, 9, 10, 11, 12, 13]
def rBB (a : Nat → Nat) (cI cZ : ClassId) (R E : Nat → Nat → Int32) (td : Int32) : va_W := wC0 a td :: (wRB a cI cZ R ++ wES a cI E)
theorem zwBB (hP : va_P D vwCl (wCA a cI cZ B R E td) H) (hD : va_D A (wCA a cI cZ B R E td)) (hS : va_S A H0 H locs) (hA : ∀ q, H0.size ≤ q → A q) : ZW D A H0 (wCA a cI cZ B R E td) (wBB a cI B) (rBB a cI cZ R E td) H locs isBB irBB := ⟨hP, hD, hS, hA, by decide, by decide, by decide, rfl, rfl⟩
theorem zkBB (B' : Nat → Nat → Int32) : ksBB.map (fun i => (rBB a cI cZ R E td ++ wBB a cI B')[i]?) = (wCA a cI cZ B' R E td).map some := rfl
abbrev isRB : List Nat := [13, 14, 15, 16, 17, 18, 19, 20, 21]
abbrev irRB : List Nat := [0, 1, 2, 3, 4, 5, 6, 7, 8, 9, 10, 11, 12, 22, 23, 24, 25]
abbrev ksRB : List Nat := [0, 1, 2, 3, 4, 5, 6, 7, 8, 9, 10, 11, 12, 17, 18, 19, 20, 21, 22, 23, 24, 25, 13, 14, 15, 16]
def rRB (a : Nat → Nat) (cI : ClassId) (B E : Nat → Nat → Int32) (td : Int32) : va_W := wC0 a td :: (wBB a cI B ++ wES a cI E)
theorem zwRB (hP : va_P D vwCl (wCA a cI cZ B R E td) H) (hD : va_D A (wCA a cI cZ B R E td)) (hS : va_S A H0 H locs) (hA : ∀ q, H0.size ≤ q → A q) : ZW D A H0 (wCA a cI cZ B R E td) (wRB a cI cZ R) (rRB a cI B E td) H locs isRB irRB := ⟨hP, hD, hS, hA, by decide, by decide, by decide, rfl, rfl⟩
theorem zkRB (R' : Nat → Nat → Int32) : ksRB.map (fun i => (rRB a cI B E td ++ wRB a cI cZ R')[i]?) = (wCA a cI cZ B R' E td).map some := rfl
abbrev isES : List Nat := [22, 23, 24, 25]
abbrev irES : List Nat := [0, 1, 2, 3, 4, 5, 6, 7, 8, 9, 10, 11, 12, 13, 14, 15, 16, 17, 18, 19, 20, 21]
abbrev ksES : List Nat := [0, 1, 2, 3, 4, 5, 6, 7, 8, 9, 10, 11, 12, 13, 14, 15, 16, 17, 18, 19, 20, 21, 22, 23, 24, 25]
def rES (a : Nat → Nat) (cI cZ : ClassId) (B R : Nat → Nat → Int32) (td : Int32) : va_W := wC0 a td :: (wBB a cI B ++ wRB a cI cZ R)
theorem zwES (hP : va_P D vwCl (wCA a cI cZ B R E td) H) (hD : va_D A (wCA a cI cZ B R E td)) (hS : va_S A H0 H locs) (hA : ∀ q, H0.size ≤ q → A q) : ZW D A H0 (wCA a cI cZ B R E td) (wES a cI E) (rES a cI cZ B R td) H locs isES irES := ⟨hP, hD, hS, hA, by decide, by decide, by decide, rfl, rfl⟩
theorem zkES (E' : Nat → Nat → Int32) : ksES.map (fun i => (rES a cI cZ B R td ++ wES a cI E')[i]?) = (wCA a cI cZ B R E' td).map some := rfl
end ZP
section ZS
variable {D : va_G} {ws : va_W} {A : Nat → Prop} {H0 H : Heap} {locs : List Loc}
/-- a whole world of k cells goes to the callee -/
theorem zwAll (k : Nat) (hk : va_nd (List.range k) = true) (hw : (List.range k).map (fun i => ws[i]?) = ws.map some) (hP : va_P D vwCl ws H) (hD : va_D A ws) (hS : va_S A H0 H locs) (hA : ∀ q, H0.size ≤ q → A q) : ZW D A H0 ws ws [] H locs (List.range k) [] := ⟨hP, hD, hS, hA, hk, rfl, (fun _ h => absurd h List.not_mem_nil), hw, rfl⟩
/-- nothing of it goes to the callee -/
theorem zwNo (k : Nat) (hk : va_nd (List.range k) = true) (hw : (List.range k).map (fun i => ws[i]?) = ws.map some) (hP : va_P D vwCl ws H) (hD : va_D A ws) (hS : va_S A H0 H locs) (hA : ∀ q, H0.size ≤ q → A q) : ZW D A H0 ws [] ws H locs [] (List.range k) := ⟨hP, hD, hS, hA, rfl, hk, (fun _ _ h => absurd h List.not_mem_nil), rfl, hw⟩
end ZS
end
section
theorem dX0_init_0 : decode cX0_init 0 = .ok (.aload_n 0, 1) := by decide +kernel
theorem dX0_init_1 : decode cX0_init 1 = .ok (.invokespecial 3, 3) := by decide +kernel
theorem dX0_init_4 : decode cX0_init 4 = .ok (.aload_n 0, 1) := by decide +kernel
theorem dX0_init_5 : decode cX0_init 5 = .ok (.bipush 40, 2) := by decide +kernel
theorem dX0_init_7 : decode cX0_init 7 = .ok (.newarray .int, 2) := by decide +kernel
theorem dX0_init_9 : decode cX0_init 9 = .ok (.putfield 9, 3) := by decide +kernel
theorem dX0_init_12 : decode cX0_init 12 = .ok (.aload_n 0, 1) := by decide +kernel
theorem dX0_init_13 : decode cX0_init 13 = .ok (.bipush 40, 2) := by decide +kernel
theorem dX0_init_15 : decode cX0_init 15 = .ok (.newarray .int, 2) := by decide +kernel
theorem dX0_init_17 : decode cX0_init 17 = .ok (.putfield 15, 3) := by decide +kernel
theorem dX0_init_20 : decode cX0_init 20 = .ok (.aload_n 0, 1) := by decide +kernel
theorem dX0_init_21 : decode cX0_init 21 = .ok (.bipush 40, 2) := by decide +kernel
theorem dX0_init_23 : decode cX0_init 23 = .ok (.newarray .int, 2) := by decide +kernel
theorem dX0_init_25 : decode cX0_init 25 = .ok (.putfield 18, 3) := by decide +kernel
theorem dX0_init_28 : decode cX0_init 28 = .ok (.aload_n 0, 1) := by decide +kernel
theorem dX0_init_29 : decode cX0_init 29 = .ok (.bipush 40, 2) := by decide +kernel
theorem dX0_init_31 : decode cX0_init 31 = .ok (.newarray .int, 2) := by decide +kernel
theorem dX0_init_33 : decode cX0_init 33 = .ok (.putfield 21, 3) := by decide +kernel
theorem dX0_init_36 : decode cX0_init 36 = .ok (.aload_n 0, 1) := by decide +kernel
theorem dX0_init_37 : decode cX0_init 37 = .ok (.bipush 40, 2) := by decide +kernel
theorem dX0_init_39 : decode cX0_init 39 = .ok (.newarray .int, 2) := by decide +kernel
theorem dX0_init_41 : decode cX0_init 41 = .ok (.putfield 24, 3) := by decide +kernel
theorem dX0_init_44 : decode cX0_init 44 = .ok (.aload_n 0, 1) := by decide +kernel
theorem dX0_init_45 : decode cX0_init 45 = .ok (.bipush 40, 2) := by decide +kernel
theorem dX0_init_47 : decode cX0_init 47 = .ok (.newarray .int, 2) := by decide +kernel
theorem dX0_init_49 : decode cX0_init 49 = .ok (.putfield 27, 3) := by decide +kernel
theorem dX0_init_52 : decode cX0_init 52 = .ok (.aload_n 0, 1) := by decide +kernel
theorem dX0_init_53 : decode cX0_init 53 = .ok (.bipush 40, 2) := by decide +kernel
theorem dX0_init_55 : decode cX0_init 55 = .ok (.newarray .int, 2) := by decide +kernel
theorem dX0_init_57 : decode cX0_init 57 = .ok (.putfield 30, 3) := by decide +kernel
theorem dX0_init_60 : decode cX0_init 60 = .ok (.aload_n 0, 1) := by decide +kernel
theorem dX0_init_61 : decode cX0_init 61 = .ok (.bipush 40, 2) := by decide +kernel
theorem dX0_init_63 : decode cX0_init 63 = .ok (.newarray .int, 2) := by decide +kernel
theorem dX0_init_65 : decode cX0_init 65 = .ok (.putfield 33, 3) := by decide +kernel
theorem dX0_init_68 : decode cX0_init 68 = .ok (.aload_n 0, 1) := by decide +kernel
theorem dX0_init_69 : decode cX0_init 69 = .ok (.bipush 40, 2) := by decide +kernel
theorem dX0_init_71 : decode cX0_init 71 = .ok (.newarray .int, 2) := by decide +kernel
theorem dX0_init_73 : decode cX0_init 73 = .ok (.putfield 36, 3) := by decide +kernel
theorem dX0_init_76 : decode cX0_init 76 = .ok (.aload_n 0, 1) := by decide +kernel
theorem dX0_init_77 : decode cX0_init 77 = .ok (.bipush 40, 2) := by decide +kernel
theorem dX0_init_79 : decode cX0_init 79 = .ok (.newarray .int, 2) := by decide +kernel
theorem dX0_init_81 : decode cX0_init 81 = .ok (.putfield 39, 3) := by decide +kernel
theorem dX0_init_84 : decode cX0_init 84 = .ok (.aload_n 0, 1) := by decide +kernel
theorem dX0_init_85 : decode cX0_init 85 = .ok (.bipush 40, 2) := by decide +kernel
theorem dX0_init_87 : decode cX0_init 87 = .ok (.newarray .int, 2) := by decide +kernel
theorem dX0_init_89 : decode cX0_init 89 = .ok (.putfield 42, 3) := by decide +kernel
theorem dX0_init_92 : decode cX0_init 92 = .ok (.return_, 1) := by decide +kernel
theorem dX0_add_0 : decode cX0_add 0 = .ok (.aload_n 0, 1) := by decide +kernel
theorem dX0_add_1 : decode cX0_add 1 = .ok (.getfield 45, 3) := by decide +kernel
theorem dX0_add_4 : decode cX0_add 4 = .ok (.istore 6, 2) := by decide +kernel
theorem dX0_add_6 : decode cX0_add 6 = .ok (.aload_n 0, 1) := by decide +kernel
theorem dX0_add_7 : decode cX0_add 7 = .ok (.getfield 9, 3) := by decide +kernel
theorem dX0_add_10 : decode cX0_add 10 = .ok (.iload 6, 2) := by decide +kernel
theorem dX0_add_12 : decode cX0_add 12 = .ok (.iload_n 1, 1) := by decide +kernel
theorem dX0_add_13 : decode cX0_add 13 = .ok (.iastore, 1) := by decide +kernel
theorem dX0_add_14 : decode cX0_add 14 = .ok (.aload_n 0, 1) := by decide +kernel
theorem dX0_add_15 : decode cX0_add 15 = .ok (.getfield 15, 3) := by decide +kernel
theorem dX0_add_18 : decode cX0_add 18 = .ok (.iload 6, 2) := by decide +kernel
theorem dX0_add_20 : decode cX0_add 20 = .ok (.iload_n 2, 1) := by decide +kernel
theorem dX0_add_21 : decode cX0_add 21 = .ok (.iastore, 1) := by decide +kernel
theorem dX0_add_22 : decode cX0_add 22 = .ok (.aload_n 0, 1) := by decide +kernel
theorem dX0_add_23 : decode cX0_add 23 = .ok (.getfield 18, 3) := by decide +kernel
theorem dX0_add_26 : decode cX0_add 26 = .ok (.iload 6, 2) := by decide +kernel
theorem dX0_add_28 : decode cX0_add 28 = .ok (.iload_n 3, 1) := by decide +kernel
theorem dX0_add_29 : decode cX0_add 29 = .ok (.iastore, 1) := by decide +kernel
theorem dX0_add_30 : decode cX0_add 30 = .ok (.aload_n 0, 1) := by decide +kernel
theorem dX0_add_31 : decode cX0_add 31 = .ok (.getfield 21, 3) := by decide +kernel
theorem dX0_add_34 : decode cX0_add 34 = .ok (.iload 6, 2) := by decide +kernel
theorem dX0_add_36 : decode cX0_add 36 = .ok (.iload 4, 2) := by decide +kernel
theorem dX0_add_38 : decode cX0_add 38 = .ok (.iastore, 1) := by decide +kernel
theorem dX0_add_39 : decode cX0_add 39 = .ok (.aload_n 0, 1) := by decide +kernel
theorem dX0_add_40 : decode cX0_add 40 = .ok (.getfield 24, 3) := by decide +kernel
theorem dX0_add_43 : decode cX0_add 43 = .ok (.iload 6, 2) := by decide +kernel
theorem dX0_add_45 : decode cX0_add 45 = .ok (.iload 5, 2) := by decide +kernel
theorem dX0_add_47 : decode cX0_add 47 = .ok (.iastore, 1) := by decide +kernel
theorem dX0_add_48 : decode cX0_add 48 = .ok (.aload_n 0, 1) := by decide +kernel
theorem dX0_add_49 : decode cX0_add 49 = .ok (.getfield 33, 3) := by decide +kernel
theorem dX0_add_52 : decode cX0_add 52 = .ok (.iload 6, 2) := by decide +kernel
theorem dX0_add_54 : decode cX0_add 54 = .ok (.iconst (-1), 1) := by decide +kernel
theorem dX0_add_55 : decode cX0_add 55 = .ok (.iastore, 1) := by decide +kernel
theorem dX0_add_56 : decode cX0_add 56 = .ok (.aload_n 0, 1) := by decide +kernel
theorem dX0_add_57 : decode cX0_add 57 = .ok (.getfield 39, 3) := by decide +kernel
theorem dX0_add_60 : decode cX0_add 60 = .ok (.iload 6, 2) := by decide +kernel
theorem dX0_add_62 : decode cX0_add 62 = .ok (.iconst (-1), 1) := by decide +kernel
theorem dX0_add_63 : decode cX0_add 63 = .ok (.iastore, 1) := by decide +kernel
theorem dX0_add_64 : decode cX0_add 64 = .ok (.aload_n 0, 1) := by decide +kernel
theorem dX0_add_65 : decode cX0_add 65 = .ok (.dup, 1) := by decide +kernel
theorem dX0_add_66 : decode cX0_add 66 = .ok (.getfield 45, 3) := by decide +kernel
theorem dX0_add_69 : decode cX0_add 69 = .ok (.iconst 1, 1) := by decide +kernel
theorem dX0_add_70 : decode cX0_add 70 = .ok (.iadd, 1) := by decide +kernel
theorem dX0_add_71 : decode cX0_add 71 = .ok (.putfield 45, 3) := by decide +kernel
theorem dX0_add_74 : decode cX0_add 74 = .ok (.iload 6, 2) := by decide +kernel
theorem dX0_add_76 : decode cX0_add 76 = .ok (.ireturn, 1) := by decide +kernel
theorem dX0_openSum_0 : decode cX0_openSum 0 = .ok (.aload_n 0, 1) := by decide +kernel
theorem dX0_openSum_1 : decode cX0_openSum 1 = .ok (.getfield 15, 3) := by decide +kernel
theorem dX0_openSum_4 : decode cX0_openSum 4 = .ok (.iload_n 1, 1) := by decide +kernel
theorem dX0_openSum_5 : decode cX0_openSum 5 = .ok (.iaload, 1) := by decide +kernel
theorem dX0_openSum_6 : decode cX0_openSum 6 = .ok (.aload_n 0, 1) := by decide +kernel
theorem dX0_openSum_7 : decode cX0_openSum 7 = .ok (.getfield 27, 3) := by decide +kernel
theorem dX0_openSum_10 : decode cX0_openSum 10 = .ok (.iload_n 1, 1) := by decide +kernel
theorem dX0_openSum_11 : decode cX0_openSum 11 = .ok (.iaload, 1) := by decide +kernel
theorem dX0_openSum_12 : decode cX0_openSum 12 = .ok (.isub, 1) := by decide +kernel
theorem dX0_openSum_13 : decode cX0_openSum 13 = .ok (.aload_n 0, 1) := by decide +kernel
theorem dX0_openSum_14 : decode cX0_openSum 14 = .ok (.getfield 30, 3) := by decide +kernel
theorem dX0_openSum_17 : decode cX0_openSum 17 = .ok (.iload_n 1, 1) := by decide +kernel
theorem dX0_openSum_18 : decode cX0_openSum 18 = .ok (.iaload, 1) := by decide +kernel
theorem dX0_openSum_19 : decode cX0_openSum 19 = .ok (.isub, 1) := by decide +kernel
theorem dX0_openSum_20 : decode cX0_openSum 20 = .ok (.aload_n 0, 1) := by decide +kernel
theorem dX0_openSum_21 : decode cX0_openSum 21 = .ok (.getfield 36, 3) := by decide +kernel
theorem dX0_openSum_24 : decode cX0_openSum 24 = .ok (.iload_n 1, 1) := by decide +kernel
theorem dX0_openSum_25 : decode cX0_openSum 25 = .ok (.iaload, 1) := by decide +kernel
theorem dX0_openSum_26 : decode cX0_openSum 26 = .ok (.isub, 1) := by decide +kernel
theorem dX0_openSum_27 : decode cX0_openSum 27 = .ok (.aload_n 0, 1) := by decide +kernel
theorem dX0_openSum_28 : decode cX0_openSum 28 = .ok (.getfield 42, 3) := by decide +kernel
theorem dX0_openSum_31 : decode cX0_openSum 31 = .ok (.iload_n 1, 1) := by decide +kernel
theorem dX0_openSum_32 : decode cX0_openSum 32 = .ok (.iaload, 1) := by decide +kernel
theorem dX0_openSum_33 : decode cX0_openSum 33 = .ok (.isub, 1) := by decide +kernel
theorem dX0_openSum_34 : decode cX0_openSum 34 = .ok (.ireturn, 1) := by decide +kernel
theorem dX0_isOpenFor_0 : decode cX0_isOpenFor 0 = .ok (.aload_n 0, 1) := by decide +kernel
theorem dX0_isOpenFor_1 : decode cX0_isOpenFor 1 = .ok (.getfield 9, 3) := by decide +kernel
theorem dX0_isOpenFor_4 : decode cX0_isOpenFor 4 = .ok (.iload_n 1, 1) := by decide +kernel
theorem dX0_isOpenFor_5 : decode cX0_isOpenFor 5 = .ok (.iaload, 1) := by decide +kernel
theorem dX0_isOpenFor_6 : decode cX0_isOpenFor 6 = .ok (.iload_n 2, 1) := by decide +kernel
theorem dX0_isOpenFor_7 : decode cX0_isOpenFor 7 = .ok (.if_icmp .ne 15, 3) := by decide +kernel
theorem dX0_isOpenFor_10 : decode cX0_isOpenFor 10 = .ok (.aload_n 0, 1) := by decide +kernel
theorem dX0_isOpenFor_11 : decode cX0_isOpenFor 11 = .ok (.iload_n 1, 1) := by decide +kernel
theorem dX0_isOpenFor_12 : decode cX0_isOpenFor 12 = .ok (.invokevirtual 49, 3) := by decide +kernel
theorem dX0_isOpenFor_15 : decode cX0_isOpenFor 15 = .ok (.ifCond .le 7, 3) := by decide +kernel
theorem dX0_isOpenFor_18 : decode cX0_isOpenFor 18 = .ok (.iconst 1, 1) := by decide +kernel
theorem dX0_isOpenFor_19 : decode cX0_isOpenFor 19 = .ok (.goto 4, 3) := by decide +kernel
theorem dX0_isOpenFor_22 : decode cX0_isOpenFor 22 = .ok (.iconst 0, 1) := by decide +kernel
theorem dX0_isOpenFor_23 : decode cX0_isOpenFor 23 = .ok (.ireturn, 1) := by decide +kernel
theorem dX0_allowsDiscount_0 : decode cX0_allowsDiscount 0 = .ok (.aload_n 0, 1) := by decide +kernel
theorem dX0_allowsDiscount_1 : decode cX0_allowsDiscount 1 = .ok (.iload_n 1, 1) := by decide +kernel
theorem dX0_allowsDiscount_2 : decode cX0_allowsDiscount 2 = .ok (.invokevirtual 49, 3) := by decide +kernel
theorem dX0_allowsDiscount_5 : decode cX0_allowsDiscount 5 = .ok (.aload_n 0, 1) := by decide +kernel
theorem dX0_allowsDiscount_6 : decode cX0_allowsDiscount 6 = .ok (.getfield 15, 3) := by decide +kernel
theorem dX0_allowsDiscount_9 : decode cX0_allowsDiscount 9 = .ok (.iload_n 1, 1) := by decide +kernel
theorem dX0_allowsDiscount_10 : decode cX0_allowsDiscount 10 = .ok (.iaload, 1) := by decide +kernel
theorem dX0_allowsDiscount_11 : decode cX0_allowsDiscount 11 = .ok (.if_icmp .ne 17, 3) := by decide +kernel
theorem dX0_allowsDiscount_14 : decode cX0_allowsDiscount 14 = .ok (.iload_n 2, 1) := by decide +kernel
theorem dX0_allowsDiscount_15 : decode cX0_allowsDiscount 15 = .ok (.aload_n 0, 1) := by decide +kernel
theorem dX0_allowsDiscount_16 : decode cX0_allowsDiscount 16 = .ok (.getfield 24, 3) := by decide +kernel
theorem dX0_allowsDiscount_19 : decode cX0_allowsDiscount 19 = .ok (.iload_n 1, 1) := by decide +kernel
theorem dX0_allowsDiscount_20 : decode cX0_allowsDiscount 20 = .ok (.iaload, 1) := by decide +kernel
theorem dX0_allowsDiscount_21 : decode cX0_allowsDiscount 21 = .ok (.if_icmp .gt 7, 3) := by decide +kernel
theorem dX0_allowsDiscount_24 : decode cX0_allowsDiscount 24 = .ok (.iconst 1, 1) := by decide +kernel
theorem dX0_allowsDiscount_25 : decode cX0_allowsDiscount 25 = .ok (.goto 4, 3) := by decide +kernel
theorem dX0_allowsDiscount_28 : decode cX0_allowsDiscount 28 = .ok (.iconst 0, 1) := by decide +kernel
theorem dX0_allowsDiscount_29 : decode cX0_allowsDiscount 29 = .ok (.ireturn, 1) := by decide +kernel
theorem dX0_dueOn_0 : decode cX0_dueOn 0 = .ok (.aload_n 0, 1) := by decide +kernel
theorem dX0_dueOn_1 : decode cX0_dueOn 1 = .ok (.iload_n 1, 1) := by decide +kernel
theorem dX0_dueOn_2 : decode cX0_dueOn 2 = .ok (.invokevirtual 49, 3) := by decide +kernel
theorem dX0_dueOn_5 : decode cX0_dueOn 5 = .ok (.istore_n 3, 1) := by decide +kernel
theorem dX0_dueOn_6 : decode cX0_dueOn 6 = .ok (.aload_n 0, 1) := by decide +kernel
theorem dX0_dueOn_7 : decode cX0_dueOn 7 = .ok (.iload_n 1, 1) := by decide +kernel
theorem dX0_dueOn_8 : decode cX0_dueOn 8 = .ok (.iload_n 2, 1) := by decide +kernel
theorem dX0_dueOn_9 : decode cX0_dueOn 9 = .ok (.invokevirtual 53, 3) := by decide +kernel
theorem dX0_dueOn_12 : decode cX0_dueOn 12 = .ok (.ifCond .eq 14, 3) := by decide +kernel
theorem dX0_dueOn_15 : decode cX0_dueOn 15 = .ok (.iload_n 3, 1) := by decide +kernel
theorem dX0_dueOn_16 : decode cX0_dueOn 16 = .ok (.aload_n 0, 1) := by decide +kernel
theorem dX0_dueOn_17 : decode cX0_dueOn 17 = .ok (.getfield 21, 3) := by decide +kernel
theorem dX0_dueOn_20 : decode cX0_dueOn 20 = .ok (.iload_n 1, 1) := by decide +kernel
theorem dX0_dueOn_21 : decode cX0_dueOn 21 = .ok (.iaload, 1) := by decide +kernel
theorem dX0_dueOn_22 : decode cX0_dueOn 22 = .ok (.isub, 1) := by decide +kernel
theorem dX0_dueOn_23 : decode cX0_dueOn 23 = .ok (.goto 4, 3) := by decide +kernel
theorem dX0_dueOn_26 : decode cX0_dueOn 26 = .ok (.iload_n 3, 1) := by decide +kernel
theorem dX0_dueOn_27 : decode cX0_dueOn 27 = .ok (.ireturn, 1) := by decide +kernel
theorem dX0_customerNamedBy_0 : decode cX0_customerNamedBy 0 = .ok (.iconst 0, 1) := by decide +kernel
theorem dX0_customerNamedBy_1 : decode cX0_customerNamedBy 1 = .ok (.istore_n 2, 1) := by decide +kernel
theorem dX0_customerNamedBy_2 : decode cX0_customerNamedBy 2 = .ok (.iload_n 2, 1) := by decide +kernel
theorem dX0_customerNamedBy_3 : decode cX0_customerNamedBy 3 = .ok (.aload_n 0, 1) := by decide +kernel
theorem dX0_customerNamedBy_4 : decode cX0_customerNamedBy 4 = .ok (.getfield 45, 3) := by decide +kernel
theorem dX0_customerNamedBy_7 : decode cX0_customerNamedBy 7 = .ok (.if_icmp .ge 34, 3) := by decide +kernel
theorem dX0_customerNamedBy_10 : decode cX0_customerNamedBy 10 = .ok (.aload_n 0, 1) := by decide +kernel
theorem dX0_customerNamedBy_11 : decode cX0_customerNamedBy 11 = .ok (.getfield 18, 3) := by decide +kernel
theorem dX0_customerNamedBy_14 : decode cX0_customerNamedBy 14 = .ok (.iload_n 2, 1) := by decide +kernel
theorem dX0_customerNamedBy_15 : decode cX0_customerNamedBy 15 = .ok (.iaload, 1) := by decide +kernel
theorem dX0_customerNamedBy_16 : decode cX0_customerNamedBy 16 = .ok (.iload_n 1, 1) := by decide +kernel
theorem dX0_customerNamedBy_17 : decode cX0_customerNamedBy 17 = .ok (.if_icmp .ne 18, 3) := by decide +kernel
theorem dX0_customerNamedBy_20 : decode cX0_customerNamedBy 20 = .ok (.aload_n 0, 1) := by decide +kernel
theorem dX0_customerNamedBy_21 : decode cX0_customerNamedBy 21 = .ok (.iload_n 2, 1) := by decide +kernel
theorem dX0_customerNamedBy_22 : decode cX0_customerNamedBy 22 = .ok (.invokevirtual 49, 3) := by decide +kernel
theorem dX0_customerNamedBy_25 : decode cX0_customerNamedBy 25 = .ok (.ifCond .le 10, 3) := by decide +kernel
theorem dX0_customerNamedBy_28 : decode cX0_customerNamedBy 28 = .ok (.aload_n 0, 1) := by decide +kernel
theorem dX0_customerNamedBy_29 : decode cX0_customerNamedBy 29 = .ok (.getfield 9, 3) := by decide +kernel
theorem dX0_customerNamedBy_32 : decode cX0_customerNamedBy 32 = .ok (.iload_n 2, 1) := by decide +kernel
theorem dX0_customerNamedBy_33 : decode cX0_customerNamedBy 33 = .ok (.iaload, 1) := by decide +kernel
theorem dX0_customerNamedBy_34 : decode cX0_customerNamedBy 34 = .ok (.ireturn, 1) := by decide +kernel
theorem dX0_customerNamedBy_35 : decode cX0_customerNamedBy 35 = .ok (.iinc 2 1, 3) := by decide +kernel
theorem dX0_customerNamedBy_38 : decode cX0_customerNamedBy 38 = .ok (.goto (-36), 3) := by decide +kernel
theorem dX0_customerNamedBy_41 : decode cX0_customerNamedBy 41 = .ok (.iconst (-1), 1) := by decide +kernel
theorem dX0_customerNamedBy_42 : decode cX0_customerNamedBy 42 = .ok (.ireturn, 1) := by decide +kernel
theorem dX0_takeDiscount_0 : decode cX0_takeDiscount 0 = .ok (.aload_n 0, 1) := by decide +kernel
theorem dX0_takeDiscount_1 : decode cX0_takeDiscount 1 = .ok (.iload_n 1, 1) := by decide +kernel
theorem dX0_takeDiscount_2 : decode cX0_takeDiscount 2 = .ok (.iload_n 3, 1) := by decide +kernel
theorem dX0_takeDiscount_3 : decode cX0_takeDiscount 3 = .ok (.invokevirtual 53, 3) := by decide +kernel
theorem dX0_takeDiscount_6 : decode cX0_takeDiscount 6 = .ok (.ifCond .eq 22, 3) := by decide +kernel
theorem dX0_takeDiscount_9 : decode cX0_takeDiscount 9 = .ok (.aload_n 0, 1) := by decide +kernel
theorem dX0_takeDiscount_10 : decode cX0_takeDiscount 10 = .ok (.getfield 30, 3) := by decide +kernel
theorem dX0_takeDiscount_13 : decode cX0_takeDiscount 13 = .ok (.iload_n 1, 1) := by decide +kernel
theorem dX0_takeDiscount_14 : decode cX0_takeDiscount 14 = .ok (.aload_n 0, 1) := by decide +kernel
theorem dX0_takeDiscount_15 : decode cX0_takeDiscount 15 = .ok (.getfield 21, 3) := by decide +kernel
theorem dX0_takeDiscount_18 : decode cX0_takeDiscount 18 = .ok (.iload_n 1, 1) := by decide +kernel
theorem dX0_takeDiscount_19 : decode cX0_takeDiscount 19 = .ok (.iaload, 1) := by decide +kernel
theorem dX0_takeDiscount_20 : decode cX0_takeDiscount 20 = .ok (.iastore, 1) := by decide +kernel
theorem dX0_takeDiscount_21 : decode cX0_takeDiscount 21 = .ok (.aload_n 0, 1) := by decide +kernel
theorem dX0_takeDiscount_22 : decode cX0_takeDiscount 22 = .ok (.getfield 33, 3) := by decide +kernel
theorem dX0_takeDiscount_25 : decode cX0_takeDiscount 25 = .ok (.iload_n 1, 1) := by decide +kernel
theorem dX0_takeDiscount_26 : decode cX0_takeDiscount 26 = .ok (.iload_n 2, 1) := by decide +kernel
theorem dX0_takeDiscount_27 : decode cX0_takeDiscount 27 = .ok (.iastore, 1) := by decide +kernel
theorem dX0_takeDiscount_28 : decode cX0_takeDiscount 28 = .ok (.return_, 1) := by decide +kernel
theorem dX0_disputeRest_0 : decode cX0_disputeRest 0 = .ok (.aload_n 0, 1) := by decide +kernel
theorem dX0_disputeRest_1 : decode cX0_disputeRest 1 = .ok (.getfield 36, 3) := by decide +kernel
theorem dX0_disputeRest_4 : decode cX0_disputeRest 4 = .ok (.iload_n 1, 1) := by decide +kernel
theorem dX0_disputeRest_5 : decode cX0_disputeRest 5 = .ok (.dup2, 1) := by decide +kernel
theorem dX0_disputeRest_6 : decode cX0_disputeRest 6 = .ok (.iaload, 1) := by decide +kernel
theorem dX0_disputeRest_7 : decode cX0_disputeRest 7 = .ok (.aload_n 0, 1) := by decide +kernel
theorem dX0_disputeRest_8 : decode cX0_disputeRest 8 = .ok (.iload_n 1, 1) := by decide +kernel
theorem dX0_disputeRest_9 : decode cX0_disputeRest 9 = .ok (.invokevirtual 49, 3) := by decide +kernel
theorem dX0_disputeRest_12 : decode cX0_disputeRest 12 = .ok (.iadd, 1) := by decide +kernel
theorem dX0_disputeRest_13 : decode cX0_disputeRest 13 = .ok (.iastore, 1) := by decide +kernel
theorem dX0_disputeRest_14 : decode cX0_disputeRest 14 = .ok (.aload_n 0, 1) := by decide +kernel
theorem dX0_disputeRest_15 : decode cX0_disputeRest 15 = .ok (.getfield 39, 3) := by decide +kernel
theorem dX0_disputeRest_18 : decode cX0_disputeRest 18 = .ok (.iload_n 1, 1) := by decide +kernel
theorem dX0_disputeRest_19 : decode cX0_disputeRest 19 = .ok (.iload_n 2, 1) := by decide +kernel
theorem dX0_disputeRest_20 : decode cX0_disputeRest 20 = .ok (.iastore, 1) := by decide +kernel
theorem dX0_disputeRest_21 : decode cX0_disputeRest 21 = .ok (.return_, 1) := by decide +kernel
theorem dX0_endDispute_0 : decode cX0_endDispute 0 = .ok (.aload_n 0, 1) := by decide +kernel
theorem dX0_endDispute_1 : decode cX0_endDispute 1 = .ok (.getfield 36, 3) := by decide +kernel
theorem dX0_endDispute_4 : decode cX0_endDispute 4 = .ok (.iload_n 1, 1) := by decide +kernel
theorem dX0_endDispute_5 : decode cX0_endDispute 5 = .ok (.iaload, 1) := by decide +kernel
theorem dX0_endDispute_6 : decode cX0_endDispute 6 = .ok (.istore_n 3, 1) := by decide +kernel
theorem dX0_endDispute_7 : decode cX0_endDispute 7 = .ok (.iload_n 2, 1) := by decide +kernel
theorem dX0_endDispute_8 : decode cX0_endDispute 8 = .ok (.ifCond .eq 13, 3) := by decide +kernel
theorem dX0_endDispute_11 : decode cX0_endDispute 11 = .ok (.aload_n 0, 1) := by decide +kernel
theorem dX0_endDispute_12 : decode cX0_endDispute 12 = .ok (.getfield 42, 3) := by decide +kernel
theorem dX0_endDispute_15 : decode cX0_endDispute 15 = .ok (.iload_n 1, 1) := by decide +kernel
theorem dX0_endDispute_16 : decode cX0_endDispute 16 = .ok (.dup2, 1) := by decide +kernel
theorem dX0_endDispute_17 : decode cX0_endDispute 17 = .ok (.iaload, 1) := by decide +kernel
theorem dX0_endDispute_18 : decode cX0_endDispute 18 = .ok (.iload_n 3, 1) := by decide +kernel
theorem dX0_endDispute_19 : decode cX0_endDispute 19 = .ok (.iadd, 1) := by decide +kernel
theorem dX0_endDispute_20 : decode cX0_endDispute 20 = .ok (.iastore, 1) := by decide +kernel
theorem dX0_endDispute_21 : decode cX0_endDispute 21 = .ok (.aload_n 0, 1) := by decide +kernel
theorem dX0_endDispute_22 : decode cX0_endDispute 22 = .ok (.getfield 36, 3) := by decide +kernel
theorem dX0_endDispute_25 : decode cX0_endDispute 25 = .ok (.iload_n 1, 1) := by decide +kernel
theorem dX0_endDispute_26 : decode cX0_endDispute 26 = .ok (.iconst 0, 1) := by decide +kernel
theorem dX0_endDispute_27 : decode cX0_endDispute 27 = .ok (.iastore, 1) := by decide +kernel
theorem dX0_endDispute_28 : decode cX0_endDispute 28 = .ok (.aload_n 0, 1) := by decide +kernel
theorem dX0_endDispute_29 : decode cX0_endDispute 29 = .ok (.getfield 39, 3) := by decide +kernel
theorem dX0_endDispute_32 : decode cX0_endDispute 32 = .ok (.iload_n 1, 1) := by decide +kernel
theorem dX0_endDispute_33 : decode cX0_endDispute 33 = .ok (.iconst (-1), 1) := by decide +kernel
theorem dX0_endDispute_34 : decode cX0_endDispute 34 = .ok (.iastore, 1) := by decide +kernel
theorem dX0_endDispute_35 : decode cX0_endDispute 35 = .ok (.iload_n 3, 1) := by decide +kernel
theorem dX0_endDispute_36 : decode cX0_endDispute 36 = .ok (.ireturn, 1) := by decide +kernel
theorem dX0_undo_0 : decode cX0_undo 0 = .ok (.aload_n 0, 1) := by decide +kernel
theorem dX0_undo_1 : decode cX0_undo 1 = .ok (.getfield 27, 3) := by decide +kernel
theorem dX0_undo_4 : decode cX0_undo 4 = .ok (.iload_n 1, 1) := by decide +kernel
theorem dX0_undo_5 : decode cX0_undo 5 = .ok (.dup2, 1) := by decide +kernel
theorem dX0_undo_6 : decode cX0_undo 6 = .ok (.iaload, 1) := by decide +kernel
theorem dX0_undo_7 : decode cX0_undo 7 = .ok (.iload_n 3, 1) := by decide +kernel
theorem dX0_undo_8 : decode cX0_undo 8 = .ok (.isub, 1) := by decide +kernel
theorem dX0_undo_9 : decode cX0_undo 9 = .ok (.iastore, 1) := by decide +kernel
theorem dX0_undo_10 : decode cX0_undo 10 = .ok (.aload_n 0, 1) := by decide +kernel
theorem dX0_undo_11 : decode cX0_undo 11 = .ok (.getfield 33, 3) := by decide +kernel
theorem dX0_undo_14 : decode cX0_undo 14 = .ok (.iload_n 1, 1) := by decide +kernel
theorem dX0_undo_15 : decode cX0_undo 15 = .ok (.iaload, 1) := by decide +kernel
theorem dX0_undo_16 : decode cX0_undo 16 = .ok (.iload_n 2, 1) := by decide +kernel
theorem dX0_undo_17 : decode cX0_undo 17 = .ok (.if_icmp .ne 17, 3) := by decide +kernel
theorem dX0_undo_20 : decode cX0_undo 20 = .ok (.aload_n 0, 1) := by decide +kernel
theorem dX0_undo_21 : decode cX0_undo 21 = .ok (.getfield 30, 3) := by decide +kernel
theorem dX0_undo_24 : decode cX0_undo 24 = .ok (.iload_n 1, 1) := by decide +kernel
theorem dX0_undo_25 : decode cX0_undo 25 = .ok (.iconst 0, 1) := by decide +kernel
theorem dX0_undo_26 : decode cX0_undo 26 = .ok (.iastore, 1) := by decide +kernel
theorem dX0_undo_27 : decode cX0_undo 27 = .ok (.aload_n 0, 1) := by decide +kernel
theorem dX0_undo_28 : decode cX0_undo 28 = .ok (.getfield 33, 3) := by decide +kernel
theorem dX0_undo_31 : decode cX0_undo 31 = .ok (.iload_n 1, 1) := by decide +kernel
theorem dX0_undo_32 : decode cX0_undo 32 = .ok (.iconst (-1), 1) := by decide +kernel
theorem dX0_undo_33 : decode cX0_undo 33 = .ok (.iastore, 1) := by decide +kernel
theorem dX0_undo_34 : decode cX0_undo 34 = .ok (.aload_n 0, 1) := by decide +kernel
theorem dX0_undo_35 : decode cX0_undo 35 = .ok (.getfield 39, 3) := by decide +kernel
theorem dX0_undo_38 : decode cX0_undo 38 = .ok (.iload_n 1, 1) := by decide +kernel
theorem dX0_undo_39 : decode cX0_undo 39 = .ok (.iaload, 1) := by decide +kernel
theorem dX0_undo_40 : decode cX0_undo 40 = .ok (.iload_n 2, 1) := by decide +kernel
theorem dX0_undo_41 : decode cX0_undo 41 = .ok (.if_icmp .ne 10, 3) := by decide +kernel
theorem dX0_undo_44 : decode cX0_undo 44 = .ok (.aload_n 0, 1) := by decide +kernel
theorem dX0_undo_45 : decode cX0_undo 45 = .ok (.iload_n 1, 1) := by decide +kernel
theorem dX0_undo_46 : decode cX0_undo 46 = .ok (.iconst 0, 1) := by decide +kernel
theorem dX0_undo_47 : decode cX0_undo 47 = .ok (.invokevirtual 57, 3) := by decide +kernel
theorem dX0_undo_50 : decode cX0_undo 50 = .ok (.pop, 1) := by decide +kernel
theorem dX0_undo_51 : decode cX0_undo 51 = .ok (.return_, 1) := by decide +kernel

def b2 (P : Prop) [Decidable P] : Int32 := if P then 1 else 0
theorem b2_0 {P : Prop} [Decidable P] (h : b2 P = 0) : ¬ P := by
  intro z
  simp [b2, z] at h
theorem b2_1 {P : Prop} [Decidable P] (h : ¬ b2 P = 0) : P := by
  by_cases z : P
  · exact z
  · simp [b2, z] at h
theorem b2_n {P : Prop} [Decidable P] : narrow .boolean (.int (b2 P)) = .int (b2 P) := by
  by_cases z : P <;> simp [b2, z] <;> decide
/-- what stands of a bill -/
def opn (B : Nat → Nat → Int32) (i : Nat) : Int32 := B 1 i - B 5 i - B 6 i - B 8 i - B 10 i
def dueN (B : Nat → Nat → Int32) (i : Nat) (dy : Int32) : Int32 := if opn B i = B 1 i ∧ ¬ B 4 i < dy then opn B i - B 3 i else opn B i
def nmd (B : Nat → Nat → Int32) (rf : Int32) : Nat → Nat → Int32
  | 0, _ => -1
  | k + 1, i => if B 2 i = rf ∧ ¬ opn B i ≤ 0 then B 0 i else nmd B rf k (i + 1)
def tkD (B : Nat → Nat → Int32) (i : Nat) (rc dy : Int32) : Nat → Nat → Int32 := if opn B i = B 1 i ∧ ¬ B 4 i < dy then pt (pt B 6 i (B 3 i)) 7 i rc else B
def dsp (B : Nat → Nat → Int32) (i : Nat) (rc : Int32) : Nat → Nat → Int32 := pt (pt B 8 i (B 8 i + opn B i)) 9 i rc
def edD (B : Nat → Nat → Int32) (i : Nat) (zz : Int32) : Nat → Nat → Int32 := if zz = 0 then pt (pt B 8 i 0) 9 i (-1) else pt (pt (pt B 10 i (B 10 i + B 8 i)) 8 i 0) 9 i (-1)
def und1 (B : Nat → Nat → Int32) (i : Nat) (rc sm : Int32) : Nat → Nat → Int32 := if B 7 i = rc then pt (pt (pt B 5 i (B 5 i - sm)) 6 i 0) 7 i (-1) else pt B 5 i (B 5 i - sm)
def und2 (B : Nat → Nat → Int32) (i : Nat) (rc : Int32) : Nat → Nat → Int32 := if B 9 i = rc then edD B i 0 else B
def und (B : Nat → Nat → Int32) (i : Nat) (rc sm : Int32) : Nat → Nat → Int32 := und2 (und1 B i rc sm) i rc
def addB (B : Nat → Nat → Int32) (n : Nat) (cu am rf di un : Int32) : Nat → Nat → Int32 := pt (pt (pt (pt (pt (pt (pt (pt B 0 n cu) 1 n am) 2 n rf) 3 n di) 4 n un) 7 n (-1)) 9 n (-1)) 11 0 (nI (n + 1))
set_option maxHeartbeats 4000000 in
set_option maxRecDepth 100000 in
theorem c_X0_openSum (l : Launch) (D : va_G) (cI cZ : ClassId) (a : Nat → Nat) (sz : Nat) (B : Nat → Nat → Int32) (i : Nat) (hi : i < 40) : Met l yX0_openSum wsX0_openSum ({ frames := 0, cells := 0, slots := 0, locals := 0 } : Room) (va_Pc [.ref (a 1), .int (nI (i))] (PreW D cI cZ (wBB a cI B) sz)) (va_Qi (fun (r : Int32) (u : Unit) => r = opn B i) (fun (u : Unit) => PostW D cI cZ (va_A (wBB a cI B) sz) (wBB a cI B)) (va_A (wBB a cI B) sz)) 0 0 (va_A (wBB a cI B) sz) := by
  refine Met.ofW (cc := cX0_openSum) (maxL := 2) (ret := (some .int)) (by decide) rfl ?_
  intro p e s m args below meth c s₁ BB hml hv
  obtain ⟨rfl, hsz, hP, hK, hD0⟩ := hv
  have hx := BB.exec
  have hb := BB.bytes
  have hr := BB.returns
  have hts := atoms_spec (ws := wsX0_openSum) BB.pre
  have hown : s.vm.findClass RX0 = some m.cls := findClass_of_methodNamed BB.named
  have hlocks := BB.notSynchronized
  clear BB
  subst hsz
  have hD := hD0.self (sz := s.heap.size)
  clear hD0
  generalize hAe : va_A (wBB a cI B) s.heap.size = A at hD ⊢
  have hA : ∀ q : Nat, s.heap.size ≤ q → A q := fun q h => by rw [← hAe]; exact Or.inr h
  clear hAe
  have hS : va_S A s.heap s.heap [] := va_S.rf
  have hl := lv_entry ([.ref (a 1), .int (nI (i))]) (n := 2) (Nat.le_of_ble_eq_true rfl)
  rw [lg_entry_eq]
  generalize (lg_sl ([.ref (a 1), .int (nI (i))]) ++ List.replicate (2 - (lg_sl ([.ref (a 1), .int (nI (i))])).length) Slot.unset).toArray = ls at hl ⊢
  have hl : lv_has ls 2 [(0, .ref (a 1)), (1, .int (nI (i)))] := hl
  generalize hHe : s.heap = H at hP
  have hS : va_S A s.heap H [] := by rw [← hHe]; exact va_S.rf
  clear hHe
  generalize hLe : ([] : List Loc) = locs at hS ⊢
  clear hLe
  refine lv_aload_n hx hb dX0_openSum_0 rfl (lv_at hl 0 rfl) ?_
  refine va_get (D := D) (ci := 0) (v := .ref (a 3)) (C := RX0) (T := TX0) (N := 12) hx hb hts (fun w h => List.mem_cons_of_mem _ (List.mem_append_right _ h)) hown hK hP 0 rfl rfl 1 (by decide) (hts (.fieldLink RX0 15 "CashAllocator$BillBook" "amount" "[I") (by decide +kernel)) (fun _ h9 => h9) rfl dX0_openSum_1 ?_
  refine lv_iload_n hx hb dX0_openSum_4 rfl (lv_at hl 1 rfl) ?_
  refine zald hx hb hK hP 2 (n := 40) (f := (B 1)) rfl (i) rfl (by omega) (by decide) dX0_openSum_5 ?_
  refine lv_aload_n hx hb dX0_openSum_6 rfl (lv_at hl 0 rfl) ?_
  refine va_get (D := D) (ci := 0) (v := .ref (a 7)) (C := RX0) (T := TX0) (N := 12) hx hb hts (fun w h => List.mem_cons_of_mem _ (List.mem_append_right _ h)) hown hK hP 0 rfl rfl 5 (by decide) (hts (.fieldLink RX0 27 "CashAllocator$BillBook" "paid" "[I") (by decide +kernel)) (fun _ h9 => h9) rfl dX0_openSum_7 ?_
  refine lv_iload_n hx hb dX0_openSum_10 rfl (lv_at hl 1 rfl) ?_
  refine zald hx hb hK hP 6 (n := 40) (f := (B 5)) rfl (i) rfl (by omega) (by decide) dX0_openSum_11 ?_
  refine lv_isub hx hb dX0_openSum_12 ?_
  refine lv_aload_n hx hb dX0_openSum_13 rfl (lv_at hl 0 rfl) ?_
  refine va_get (D := D) (ci := 0) (v := .ref (a 8)) (C := RX0) (T := TX0) (N := 12) hx hb hts (fun w h => List.mem_cons_of_mem _ (List.mem_append_right _ h)) hown hK hP 0 rfl rfl 6 (by decide) (hts (.fieldLink RX0 30 "CashAllocator$BillBook" "taken" "[I") (by decide +kernel)) (fun _ h9 => h9) rfl dX0_openSum_14 ?_
  refine lv_iload_n hx hb dX0_openSum_17 rfl (lv_at hl 1 rfl) ?_
  refine zald hx hb hK hP 7 (n := 40) (f := (B 6)) rfl (i) rfl (by omega) (by decide) dX0_openSum_18 ?_
  refine lv_isub hx hb dX0_openSum_19 ?_
  refine lv_aload_n hx hb dX0_openSum_20 rfl (lv_at hl 0 rfl) ?_
  refine va_get (D := D) (ci := 0) (v := .ref (a 10)) (C := RX0) (T := TX0) (N := 12) hx hb hts (fun w h => List.mem_cons_of_mem _ (List.mem_append_right _ h)) hown hK hP 0 rfl rfl 8 (by decide) (hts (.fieldLink RX0 36 "CashAllocator$BillBook" "disputed" "[I") (by decide +kernel)) (fun _ h9 => h9) rfl dX0_openSum_21 ?_
  refine lv_iload_n hx hb dX0_openSum_24 rfl (lv_at hl 1 rfl) ?_
  refine zald hx hb hK hP 9 (n := 40) (f := (B 8)) rfl (i) rfl (by omega) (by decide) dX0_openSum_25 ?_
  refine lv_isub hx hb dX0_openSum_26 ?_
  refine lv_aload_n hx hb dX0_openSum_27 rfl (lv_at hl 0 rfl) ?_
  refine va_get (D := D) (ci := 0) (v := .ref (a 12)) (C := RX0) (T := TX0) (N := 12) hx hb hts (fun w h => List.mem_cons_of_mem _ (List.mem_append_right _ h)) hown hK hP 0 rfl rfl 10 (by decide) (hts (.fieldLink RX0 42 "CashAllocator$BillBook" "writtenOff" "[I") (by decide +kernel)) (fun _ h9 => h9) rfl dX0_openSum_28 ?_
  refine lv_iload_n hx hb dX0_openSum_31 rfl (lv_at hl 1 rfl) ?_
  refine zald hx hb hK hP 11 (n := 40) (f := (B 10)) rfl (i) rfl (by omega) (by decide) dX0_openSum_32 ?_
  refine lv_isub hx hb dX0_openSum_33 ?_
  exact W.iret (v := ((((B 1 (i)) - (B 5 (i))) - (B 6 (i))) - (B 8 (i))) - (B 10 (i))) hx hb hr (fun t ht hW => ⟨⟨((((B 1 (i)) - (B 5 (i))) - (B 6 (i))) - (B 8 (i))) - (B 10 (i)), (), rfl, rfl, by rw [ht]; exact hP, va_K.moved hW.alike hK, hD⟩, hS.F ht⟩) hS.2.2 dX0_openSum_34
set_option maxHeartbeats 4000000 in
set_option maxRecDepth 100000 in
theorem c_X0_isOpenFor (l : Launch) (D : va_G) (cI cZ : ClassId) (a : Nat → Nat) (sz : Nat) (B : Nat → Nat → Int32) (i : Nat) (cu : Int32) (hi : i < 40) : Met l yX0_isOpenFor wsX0_isOpenFor ({ frames := 1, cells := 0, slots := 0, locals := 21 } : Room) (va_Pc [.ref (a 1), .int (nI (i)), .int (cu)] (PreW D cI cZ (wBB a cI B) sz)) (va_Qi (fun (r : Int32) (u : Unit) => r = b2 (B 0 i = cu ∧ ¬ opn B i ≤ 0)) (fun (u : Unit) => PostW D cI cZ (va_A (wBB a cI B) sz) (wBB a cI B)) (va_A (wBB a cI B) sz)) 0 0 (va_A (wBB a cI B) sz) := by
  refine Met.ofW (cc := cX0_isOpenFor) (maxL := 3) (ret := (some .boolean)) (by decide) rfl ?_
  intro p e s m args below meth c s₁ BB hml hv
  obtain ⟨rfl, hsz, hP, hK, hD0⟩ := hv
  have hx := BB.exec
  have hb := BB.bytes
  have hr := BB.returns
  have hts := atoms_spec (ws := wsX0_isOpenFor) BB.pre
  have hown : s.vm.findClass RX0 = some m.cls := findClass_of_methodNamed BB.named
  have hlocks := BB.notSynchronized
  clear BB
  subst hsz
  have hD := hD0.self (sz := s.heap.size)
  clear hD0
  generalize hAe : va_A (wBB a cI B) s.heap.size = A at hD ⊢
  have hA : ∀ q : Nat, s.heap.size ≤ q → A q := fun q h => by rw [← hAe]; exact Or.inr h
  clear hAe
  have hS : va_S A s.heap s.heap [] := va_S.rf
  have hl := lv_entry ([.ref (a 1), .int (nI (i)), .int (cu)]) (n := 3) (Nat.le_of_ble_eq_true rfl)
  rw [lg_entry_eq]
  generalize (lg_sl ([.ref (a 1), .int (nI (i)), .int (cu)]) ++ List.replicate (3 - (lg_sl ([.ref (a 1), .int (nI (i)), .int (cu)])).length) Slot.unset).toArray = ls at hl ⊢
  have hl : lv_has ls 3 [(0, .ref (a 1)), (1, .int (nI (i))), (2, .int (cu))] := hl
  generalize hHe : s.heap = H at hP
  have hS : va_S A s.heap H [] := by rw [← hHe]; exact va_S.rf
  clear hHe
  generalize hLe : ([] : List Loc) = locs at hS ⊢
  clear hLe
  refine lv_aload_n hx hb dX0_isOpenFor_0 rfl (lv_at hl 0 rfl) ?_
  refine va_get (D := D) (ci := 0) (v := .ref (a 2)) (C := RX0) (T := TX0) (N := 12) hx hb hts (fun w h => List.mem_cons_of_mem _ (List.mem_append_right _ h)) hown hK hP 0 rfl rfl 0 (by decide) (hts (.fieldLink RX0 9 "CashAllocator$BillBook" "customer" "[I") (by decide +kernel)) (fun _ h9 => h9) rfl dX0_isOpenFor_1 ?_
  refine lv_iload_n hx hb dX0_isOpenFor_4 rfl (lv_at hl 1 rfl) ?_
  refine zald hx hb hK hP 1 (n := 40) (f := (B 0)) rfl (i) rfl (by omega) (by decide) dX0_isOpenFor_5 ?_
  refine lv_iload_n hx hb dX0_isOpenFor_6 rfl (lv_at hl 2 rfl) ?_
  refine lv_icmp_ne (tgt := 22) hx hb dX0_isOpenFor_7 (by decide) (fun c7 => ?_) (fun c7 => ?_)
  · -- 7 taken
    refine lv_iconst (v := 0) hx hb dX0_isOpenFor_22 (by decide) ?_
    exact W.zret (ty := .boolean) (v := 0) hx hb hr (by decide) (fun t ht hW => ⟨⟨0, (), rfl, by simp [b2, c7], by rw [ht]; exact hP, va_K.moved hW.alike hK, hD⟩, hS.F ht⟩) hS.2.2 dX0_isOpenFor_23
  · -- 7 on
    refine lv_aload_n hx hb dX0_isOpenFor_10 rfl (lv_at hl 0 rfl) ?_
    refine lv_iload_n hx hb dX0_isOpenFor_11 rfl (lv_at hl 1 rfl) ?_
    refine zcVi (ci := 0) (q0 := 0) (wf := (fun (u : Unit) => (wBB a cI B))) (List.range 12) ⟨hx, hb, hml, hown, hts⟩ (zwAll 12 (by decide) rfl hP hD hS hA) hK (c_X0_openSum l D cI cZ a H.size (B) (i) (by first | assumption | omega)) (cwV 1 hts gX0_isOpenFor_X0_openSum rfl rfl rfl (by decide +kernel) ⟨Nat.le_of_ble_eq_true rfl, Nat.le_of_ble_eq_true rfl⟩) rfl rfl (by decide) (fun _ => rfl) rfl hl.1 rfl (Nat.le_of_ble_eq_true rfl) dX0_isOpenFor_12 ⟨Nat.le_of_ble_eq_true rfl, Nat.le_of_ble_eq_true rfl⟩ (fun r12 u H locs hw hP hD hS => ?_)
    subst hw
    refine lv_if_le (tgt := 22) hx hb dX0_isOpenFor_15 (by decide) (fun c15 => ?_) (fun c15 => ?_)
    · -- 15 taken
      refine lv_iconst (v := 0) hx hb dX0_isOpenFor_22 (by decide) ?_
      exact W.zret (ty := .boolean) (v := 0) hx hb hr (by decide) (fun t ht hW => ⟨⟨0, (), rfl, by simp [b2, c7, c15], by rw [ht]; exact hP, va_K.moved hW.alike hK, hD⟩, hS.F ht⟩) hS.2.2 dX0_isOpenFor_23
    · -- 15 on
      refine lv_iconst (v := 1) hx hb dX0_isOpenFor_18 (by decide) ?_
      refine lv_goto (tgt := 23) hx hb dX0_isOpenFor_19 (by decide) ?_
      exact W.zret (ty := .boolean) (v := 1) hx hb hr (by decide) (fun t ht hW => ⟨⟨1, (), rfl, by simp [b2, c7, c15], by rw [ht]; exact hP, va_K.moved hW.alike hK, hD⟩, hS.F ht⟩) hS.2.2 dX0_isOpenFor_23
set_option maxHeartbeats 4000000 in
set_option maxRecDepth 100000 in
theorem c_X0_allowsDiscount (l : Launch) (D : va_G) (cI cZ : ClassId) (a : Nat → Nat) (sz : Nat) (B : Nat → Nat → Int32) (i : Nat) (dy : Int32) (hi : i < 40) : Met l yX0_allowsDiscount wsX0_allowsDiscount ({ frames := 1, cells := 0, slots := 0, locals := 21 } : Room) (va_Pc [.ref (a 1), .int (nI (i)), .int (dy)] (PreW D cI cZ (wBB a cI B) sz)) (va_Qi (fun (r : Int32) (u : Unit) => r = b2 (opn B i = B 1 i ∧ ¬ B 4 i < dy)) (fun (u : Unit) => PostW D cI cZ (va_A (wBB a cI B) sz) (wBB a cI B)) (va_A (wBB a cI B) sz)) 0 0 (va_A (wBB a cI B) sz) := by
  refine Met.ofW (cc := cX0_allowsDiscount) (maxL := 3) (ret := (some .boolean)) (by decide) rfl ?_
  intro p e s m args below meth c s₁ BB hml hv
  obtain ⟨rfl, hsz, hP, hK, hD0⟩ := hv
  have hx := BB.exec
  have hb := BB.bytes
  have hr := BB.returns
  have hts := atoms_spec (ws := wsX0_allowsDiscount) BB.pre
  have hown : s.vm.findClass RX0 = some m.cls := findClass_of_methodNamed BB.named
  have hlocks := BB.notSynchronized
  clear BB
  subst hsz
  have hD := hD0.self (sz := s.heap.size)
  clear hD0
  generalize hAe : va_A (wBB a cI B) s.heap.size = A at hD ⊢
  have hA : ∀ q : Nat, s.heap.size ≤ q → A q := fun q h => by rw [← hAe]; exact Or.inr h
  clear hAe
  have hS : va_S A s.heap s.heap [] := va_S.rf
  have hl := lv_entry ([.ref (a 1), .int (nI (i)), .int (dy)]) (n := 3) (Nat.le_of_ble_eq_true rfl)
  rw [lg_entry_eq]
  generalize (lg_sl ([.ref (a 1), .int (nI (i)), .int (dy)]) ++ List.replicate (3 - (lg_sl ([.ref (a 1), .int (nI (i)), .int (dy)])).length) Slot.unset).toArray = ls at hl ⊢
  have hl : lv_has ls 3 [(0, .ref (a 1)), (1, .int (nI (i))), (2, .int (dy))] := hl
  generalize hHe : s.heap = H at hP
  have hS : va_S A s.heap H [] := by rw [← hHe]; exact va_S.rf
  clear hHe
  generalize hLe : ([] : List Loc) = locs at hS ⊢
  clear hLe
  refine lv_aload_n hx hb dX0_allowsDiscount_0 rfl (lv_at hl 0 rfl) ?_
  refine lv_iload_n hx hb dX0_allowsDiscount_1 rfl (lv_at hl 1 rfl) ?_
  refine zcVi (ci := 0) (q0 := 0) (wf := (fun (u : Unit) => (wBB a cI B))) (List.range 12) ⟨hx, hb, hml, hown, hts⟩ (zwAll 12 (by decide) rfl hP hD hS hA) hK (c_X0_openSum l D cI cZ a H.size (B) (i) (by first | assumption | omega)) (cwV 1 hts gX0_allowsDiscount_X0_openSum rfl rfl rfl (by decide +kernel) ⟨Nat.le_of_ble_eq_true rfl, Nat.le_of_ble_eq_true rfl⟩) rfl rfl (by decide) (fun _ => rfl) rfl hl.1 rfl (Nat.le_of_ble_eq_true rfl) dX0_allowsDiscount_2 ⟨Nat.le_of_ble_eq_true rfl, Nat.le_of_ble_eq_true rfl⟩ (fun r2 u H locs hw hP hD hS => ?_)
  subst hw
  refine lv_aload_n hx hb dX0_allowsDiscount_5 rfl (lv_at hl 0 rfl) ?_
  refine va_get (D := D) (ci := 0) (v := .ref (a 3)) (C := RX0) (T := TX0) (N := 12) hx hb hts (fun w h => List.mem_cons_of_mem _ (List.mem_append_right _ h)) hown hK hP 0 rfl rfl 1 (by decide) (hts (.fieldLink RX0 15 "CashAllocator$BillBook" "amount" "[I") (by decide +kernel)) (fun _ h9 => h9) rfl dX0_allowsDiscount_6 ?_
  refine lv_iload_n hx hb dX0_allowsDiscount_9 rfl (lv_at hl 1 rfl) ?_
  refine zald hx hb hK hP 2 (n := 40) (f := (B 1)) rfl (i) rfl (by omega) (by decide) dX0_allowsDiscount_10 ?_
  refine lv_icmp_ne (tgt := 28) hx hb dX0_allowsDiscount_11 (by decide) (fun c11 => ?_) (fun c11 => ?_)
  · -- 11 taken
    refine lv_iconst (v := 0) hx hb dX0_allowsDiscount_28 (by decide) ?_
    exact W.zret (ty := .boolean) (v := 0) hx hb hr (by decide) (fun t ht hW => ⟨⟨0, (), rfl, by simp [b2, c11], by rw [ht]; exact hP, va_K.moved hW.alike hK, hD⟩, hS.F ht⟩) hS.2.2 dX0_allowsDiscount_29
  · -- 11 on
    refine lv_iload_n hx hb dX0_allowsDiscount_14 rfl (lv_at hl 2 rfl) ?_
    refine lv_aload_n hx hb dX0_allowsDiscount_15 rfl (lv_at hl 0 rfl) ?_
    refine va_get (D := D) (ci := 0) (v := .ref (a 6)) (C := RX0) (T := TX0) (N := 12) hx hb hts (fun w h => List.mem_cons_of_mem _ (List.mem_append_right _ h)) hown hK hP 0 rfl rfl 4 (by decide) (hts (.fieldLink RX0 24 "CashAllocator$BillBook" "lastDiscountDay" "[I") (by decide +kernel)) (fun _ h9 => h9) rfl dX0_allowsDiscount_16 ?_
    refine lv_iload_n hx hb dX0_allowsDiscount_19 rfl (lv_at hl 1 rfl) ?_
    refine zald hx hb hK hP 5 (n := 40) (f := (B 4)) rfl (i) rfl (by omega) (by decide) dX0_allowsDiscount_20 ?_
    refine lv_icmp_gt (tgt := 28) hx hb dX0_allowsDiscount_21 (by decide) (fun c21 => ?_) (fun c21 => ?_)
    · -- 21 taken
      refine lv_iconst (v := 0) hx hb dX0_allowsDiscount_28 (by decide) ?_
      exact W.zret (ty := .boolean) (v := 0) hx hb hr (by decide) (fun t ht hW => ⟨⟨0, (), rfl, by simp [b2, c11, c21], by rw [ht]; exact hP, va_K.moved hW.alike hK, hD⟩, hS.F ht⟩) hS.2.2 dX0_allowsDiscount_29
    · -- 21 on
      refine lv_iconst (v := 1) hx hb dX0_allowsDiscount_24 (by decide) ?_
      refine lv_goto (tgt := 29) hx hb dX0_allowsDiscount_25 (by decide) ?_
      exact W.zret (ty := .boolean) (v := 1) hx hb hr (by decide) (fun t ht hW => ⟨⟨1, (), rfl, by simp [b2, c11, c21], by rw [ht]; exact hP, va_K.moved hW.alike hK, hD⟩, hS.F ht⟩) hS.2.2 dX0_allowsDiscount_29
set_option maxHeartbeats 4000000 in
set_option maxRecDepth 100000 in
theorem c_X0_dueOn (l : Launch) (D : va_G) (cI cZ : ClassId) (a : Nat → Nat) (sz : Nat) (B : Nat → Nat → Int32) (i : Nat) (dy : Int32) (hi : i < 40) : Met l yX0_dueOn wsX0_dueOn ({ frames := 2, cells := 0, slots := 0, locals := 43 } : Room) (va_Pc [.ref (a 1), .int (nI (i)), .int (dy)] (PreW D cI cZ (wBB a cI B) sz)) (va_Qi (fun (r : Int32) (u : Unit) => r = dueN B i dy) (fun (u : Unit) => PostW D cI cZ (va_A (wBB a cI B) sz) (wBB a cI B)) (va_A (wBB a cI B) sz)) 0 0 (va_A (wBB a cI B) sz) := by
  refine Met.ofW (cc := cX0_dueOn) (maxL := 4) (ret := (some .int)) (by decide) rfl ?_
  intro p e s m args below meth c s₁ BB hml hv
  obtain ⟨rfl, hsz, hP, hK, hD0⟩ := hv
  have hx := BB.exec
  have hb := BB.bytes
  have hr := BB.returns
  have hts := atoms_spec (ws := wsX0_dueOn) BB.pre
  have hown : s.vm.findClass RX0 = some m.cls := findClass_of_methodNamed BB.named
  have hlocks := BB.notSynchronized
  clear BB
  subst hsz
  have hD := hD0.self (sz := s.heap.size)
  clear hD0
  generalize hAe : va_A (wBB a cI B) s.heap.size = A at hD ⊢
  have hA : ∀ q : Nat, s.heap.size ≤ q → A q := fun q h => by rw [← hAe]; exact Or.inr h
  clear hAe
  have hS : va_S A s.heap s.heap [] := va_S.rf
  have hl := lv_entry ([.ref (a 1), .int (nI (i)), .int (dy)]) (n := 4) (Nat.le_of_ble_eq_true rfl)
  rw [lg_entry_eq]
  generalize (lg_sl ([.ref (a 1), .int (nI (i)), .int (dy)]) ++ List.replicate (4 - (lg_sl ([.ref (a 1), .int (nI (i)), .int (dy)])).length) Slot.unset).toArray = ls at hl ⊢
  have hl : lv_has ls 4 [(0, .ref (a 1)), (1, .int (nI (i))), (2, .int (dy))] := hl
  generalize hHe : s.heap = H at hP
  have hS : va_S A s.heap H [] := by rw [← hHe]; exact va_S.rf
  clear hHe
  generalize hLe : ([] : List Loc) = locs at hS ⊢
  clear hLe
  refine lv_aload_n hx hb dX0_dueOn_0 rfl (lv_at hl 0 rfl) ?_
  refine lv_iload_n hx hb dX0_dueOn_1 rfl (lv_at hl 1 rfl) ?_
  refine zcVi (ci := 0) (q0 := 0) (wf := (fun (u : Unit) => (wBB a cI B))) (List.range 12) ⟨hx, hb, hml, hown, hts⟩ (zwAll 12 (by decide) rfl hP hD hS hA) hK (c_X0_openSum l D cI cZ a H.size (B) (i) (by first | assumption | omega)) (cwV 1 hts gX0_dueOn_X0_openSum rfl rfl rfl (by decide +kernel) ⟨Nat.le_of_ble_eq_true rfl, Nat.le_of_ble_eq_true rfl⟩) rfl rfl (by decide) (fun _ => rfl) rfl hl.1 rfl (Nat.le_of_ble_eq_true rfl) dX0_dueOn_2 ⟨Nat.le_of_ble_eq_true rfl, Nat.le_of_ble_eq_true rfl⟩ (fun r2 u H locs hw hP hD hS => ?_)
  subst hw
  refine lv_istore_n (lv' := [(3, .int (opn (B) (i))), (0, .ref (a 1)), (1, .int (nI (i))), (2, .int (dy))]) hx hb dX0_dueOn_5 rfl hl (by decide) rfl (fun ls hl => ?_)
  refine lv_aload_n hx hb dX0_dueOn_6 rfl (lv_at hl 1 rfl) ?_
  refine lv_iload_n hx hb dX0_dueOn_7 rfl (lv_at hl 2 rfl) ?_
  refine lv_iload_n hx hb dX0_dueOn_8 rfl (lv_at hl 3 rfl) ?_
  refine zcVi (ci := 0) (q0 := 0) (wf := (fun (u : Unit) => (wBB a cI B))) (List.range 12) ⟨hx, hb, hml, hown, hts⟩ (zwAll 12 (by decide) rfl hP hD hS hA) hK (c_X0_allowsDiscount l D cI cZ a H.size (B) (i) (dy) (by first | assumption | omega)) (cwV 2 hts gX0_dueOn_X0_allowsDiscount rfl rfl rfl (by decide +kernel) ⟨Nat.le_of_ble_eq_true rfl, Nat.le_of_ble_eq_true rfl⟩) rfl rfl (by decide) (fun _ => rfl) rfl hl.1 rfl (Nat.le_of_ble_eq_true rfl) dX0_dueOn_9 ⟨Nat.le_of_ble_eq_true rfl, Nat.le_of_ble_eq_true rfl⟩ (fun r9 u H locs hw hP hD hS => ?_)
  subst hw
  refine lv_if_eq (tgt := 26) hx hb dX0_dueOn_12 (by decide) (fun c12 => ?_) (fun c12 => ?_)
  · -- 12 taken
    have c12 := b2_0 c12
    refine lv_iload_n hx hb dX0_dueOn_26 rfl (lv_at hl 0 rfl) ?_
    exact W.iret (v := opn (B) (i)) hx hb hr (fun t ht hW => ⟨⟨opn (B) (i), (), rfl, by simp only [dueN]; first | rw [if_pos c12] | rw [if_neg c12], by rw [ht]; exact hP, va_K.moved hW.alike hK, hD⟩, hS.F ht⟩) hS.2.2 dX0_dueOn_27
  · -- 12 on
    have c12 := b2_1 c12
    refine lv_iload_n hx hb dX0_dueOn_15 rfl (lv_at hl 0 rfl) ?_
    refine lv_aload_n hx hb dX0_dueOn_16 rfl (lv_at hl 1 rfl) ?_
    refine va_get (D := D) (ci := 0) (v := .ref (a 5)) (C := RX0) (T := TX0) (N := 12) hx hb hts (fun w h => List.mem_cons_of_mem _ (List.mem_append_right _ h)) hown hK hP 0 rfl rfl 3 (by decide) (hts (.fieldLink RX0 21 "CashAllocator$BillBook" "discount" "[I") (by decide +kernel)) (fun _ h9 => h9) rfl dX0_dueOn_17 ?_
    refine lv_iload_n hx hb dX0_dueOn_20 rfl (lv_at hl 2 rfl) ?_
    refine zald hx hb hK hP 4 (n := 40) (f := (B 3)) rfl (i) rfl (by omega) (by decide) dX0_dueOn_21 ?_
    refine lv_isub hx hb dX0_dueOn_22 ?_
    refine lv_goto (tgt := 27) hx hb dX0_dueOn_23 (by decide) ?_
    exact W.iret (v := (opn (B) (i)) - (B 3 (i))) hx hb hr (fun t ht hW => ⟨⟨(opn (B) (i)) - (B 3 (i)), (), rfl, by simp only [dueN]; first | rw [if_pos c12] | rw [if_neg c12], by rw [ht]; exact hP, va_K.moved hW.alike hK, hD⟩, hS.F ht⟩) hS.2.2 dX0_dueOn_27
set_option maxHeartbeats 4000000 in
set_option maxRecDepth 100000 in
theorem c_X0_customerNamedBy (l : Launch) (D : va_G) (cI cZ : ClassId) (a : Nat → Nat) (sz : Nat) (B : Nat → Nat → Int32) (rf : Int32) (n : Nat) (hB : B 11 0 = nI n) (hn : n ≤ 40) : Met l yX0_customerNamedBy wsX0_customerNamedBy ({ frames := 1, cells := 0, slots := 0, locals := 21 } : Room) (va_Pc [.ref (a 1), .int (rf)] (PreW D cI cZ (wBB a cI B) sz)) (va_Qi (fun (r : Int32) (u : Unit) => r = nmd B rf n 0) (fun (u : Unit) => PostW D cI cZ (va_A (wBB a cI B) sz) (wBB a cI B)) (va_A (wBB a cI B) sz)) 0 0 (va_A (wBB a cI B) sz) := by
  refine Met.ofW (cc := cX0_customerNamedBy) (maxL := 3) (ret := (some .int)) (by decide) rfl ?_
  intro p e s m args below meth c s₁ BB hml hv
  obtain ⟨rfl, hsz, hP, hK, hD0⟩ := hv
  have hx := BB.exec
  have hb := BB.bytes
  have hr := BB.returns
  have hts := atoms_spec (ws := wsX0_customerNamedBy) BB.pre
  have hown : s.vm.findClass RX0 = some m.cls := findClass_of_methodNamed BB.named
  have hlocks := BB.notSynchronized
  clear BB
  subst hsz
  have hD := hD0.self (sz := s.heap.size)
  clear hD0
  generalize hAe : va_A (wBB a cI B) s.heap.size = A at hD ⊢
  have hA : ∀ q : Nat, s.heap.size ≤ q → A q := fun q h => by rw [← hAe]; exact Or.inr h
  clear hAe
  have hS : va_S A s.heap s.heap [] := va_S.rf
  have hl := lv_entry ([.ref (a 1), .int (rf)]) (n := 3) (Nat.le_of_ble_eq_true rfl)
  rw [lg_entry_eq]
  generalize (lg_sl ([.ref (a 1), .int (rf)]) ++ List.replicate (3 - (lg_sl ([.ref (a 1), .int (rf)])).length) Slot.unset).toArray = ls at hl ⊢
  have hl : lv_has ls 3 [(0, .ref (a 1)), (1, .int (rf))] := hl
  generalize hHe : s.heap = H at hP
  have hS : va_S A s.heap H [] := by rw [← hHe]; exact va_S.rf
  clear hHe
  generalize hLe : ([] : List Loc) = locs at hS ⊢
  clear hLe
  refine lv_iconst (v := nI (0)) hx hb dX0_customerNamedBy_0 (by decide) ?_
  refine lv_istore_n (lv' := [(2, .int (nI (0))), (0, .ref (a 1)), (1, .int (rf))]) hx hb dX0_customerNamedBy_1 rfl hl (by decide) rfl (fun ls hl => ?_)
  have loop2 : ∀ (fu : Nat) (i : Nat) (hin : i ≤ n) (hg : nmd B rf n 0 = nmd B rf (n - i) i) (hfu : n - i < fu) (H : Heap) (locs : List Loc) (hP : va_P D vwCl (wBB a cI B) H) (hD : va_D A (wBB a cI B)) (hS : va_S A s.heap H locs) (ls : Array Slot) (hl : lv_has ls 3 [(2, .int (nI (i))), (0, .ref (a 1)), (1, .int (rf))]), W p l e (headSpec wsX0_customerNamedBy ({ frames := 1, cells := 0, slots := 0, locals := 21 } : Room)).room s m ([.ref (a 1), .int (rf)] : List Value).toArray below meth c H locs 0 0 (MQ below (va_Qi (fun (r : Int32) (u : Unit) => r = nmd B rf n 0) (fun (u : Unit) => PostW D cI cZ A (wBB a cI B)) A) ([.ref (a 1), .int (rf)] : List Value).toArray s 0 0 A) (F0 m 2 ls []) := by
    clear hP hD hS hl
    intro fu2
    induction fu2 with
    | zero => intro i hin hg hfu; exact absurd hfu (Nat.not_lt_zero _)
    | succ fu2 ih2 =>
      intro i hin hg hfu H locs hP hD hS ls hl
      refine lv_iload_n hx hb dX0_customerNamedBy_2 rfl (lv_at hl 0 rfl) ?_
      refine lv_aload_n hx hb dX0_customerNamedBy_3 rfl (lv_at hl 1 rfl) ?_
      refine va_get (D := D) (ci := 0) (v := .int (nI (n))) (C := RX0) (T := TX0) (N := 12) hx hb hts (fun w h => List.mem_cons_of_mem _ (List.mem_append_right _ h)) hown hK hP 0 rfl rfl 11 (by decide) (hts (.fieldLink RX0 45 "CashAllocator$BillBook" "count" "I") (by decide +kernel)) (fun _ h9 => h9) (congrArg (fun z => some (Value.int z)) hB) dX0_customerNamedBy_4 ?_
      refine lv_icmp_ge (tgt := 41) hx hb dX0_customerNamedBy_7 (by decide) (fun c7 => ?_) (fun c7 => ?_)
      · -- 7 taken
        rw [nI_leI (by omega) (by omega)] at c7
        refine lv_iconst (v := (-1)) hx hb dX0_customerNamedBy_41 (by decide) ?_
        have hfin : (-1 : Int32) = nmd B rf n 0 := by rw [hg, show n - i = 0 by omega]; rfl
        exact W.iret (v := (-1)) hx hb hr (fun t ht hW => ⟨⟨(-1), (), rfl, hfin, by rw [ht]; exact hP, va_K.moved hW.alike hK, hD⟩, hS.F ht⟩) hS.2.2 dX0_customerNamedBy_42
      · -- 7 on
        rw [nI_leI (by omega) (by omega)] at c7
        have c7 : i < n := by omega
        have hk : n - i = (n - (i + 1)) + 1 := by omega
        rw [hk] at hg
        refine lv_aload_n hx hb dX0_customerNamedBy_10 rfl (lv_at hl 1 rfl) ?_
        refine va_get (D := D) (ci := 0) (v := .ref (a 4)) (C := RX0) (T := TX0) (N := 12) hx hb hts (fun w h => List.mem_cons_of_mem _ (List.mem_append_right _ h)) hown hK hP 0 rfl rfl 2 (by decide) (hts (.fieldLink RX0 18 "CashAllocator$BillBook" "reference" "[I") (by decide +kernel)) (fun _ h9 => h9) rfl dX0_customerNamedBy_11 ?_
        refine lv_iload_n hx hb dX0_customerNamedBy_14 rfl (lv_at hl 0 rfl) ?_
        refine zald hx hb hK hP 3 (n := 40) (f := (B 2)) rfl (i) rfl (by omega) (by decide) dX0_customerNamedBy_15 ?_
        refine lv_iload_n hx hb dX0_customerNamedBy_16 rfl (lv_at hl 2 rfl) ?_
        refine lv_icmp_ne (tgt := 35) hx hb dX0_customerNamedBy_17 (by decide) (fun c17 => ?_) (fun c17 => ?_)
        · -- 17 taken
          have hg2 : nmd B rf n 0 = nmd B rf (n - (i + 1)) (i + 1) := by rw [hg, nmd, if_neg (fun z => c17 z.1)]
          refine lv_iinc (v := nI (i + 1)) (lv' := [(2, .int (nI (i + 1))), (0, .ref (a 1)), (1, .int (rf))]) hx hb dX0_customerNamedBy_35 hl (k := 0) rfl (nI_1 _) (by decide) rfl (fun ls hl => ?_)
          refine lv_goto (tgt := 2) hx hb dX0_customerNamedBy_38 (by decide) ?_
          exact ih2 (i + 1) (by omega) hg2 (by omega) _ _ hP hD hS _ (lv_sub hl [0, 1, 2] rfl)
        · -- 17 on
          refine lv_aload_n hx hb dX0_customerNamedBy_20 rfl (lv_at hl 1 rfl) ?_
          refine lv_iload_n hx hb dX0_customerNamedBy_21 rfl (lv_at hl 0 rfl) ?_
          refine zcVi (ci := 0) (q0 := 0) (wf := (fun (u : Unit) => (wBB a cI B))) (List.range 12) ⟨hx, hb, hml, hown, hts⟩ (zwAll 12 (by decide) rfl hP hD hS hA) hK (c_X0_openSum l D cI cZ a H.size (B) (i) (by first | assumption | omega)) (cwV 1 hts gX0_customerNamedBy_X0_openSum rfl rfl rfl (by decide +kernel) ⟨Nat.le_of_ble_eq_true rfl, Nat.le_of_ble_eq_true rfl⟩) rfl rfl (by decide) (fun _ => rfl) rfl hl.1 rfl (Nat.le_of_ble_eq_true rfl) dX0_customerNamedBy_22 ⟨Nat.le_of_ble_eq_true rfl, Nat.le_of_ble_eq_true rfl⟩ (fun r22 u H locs hw hP hD hS => ?_)
          subst hw
          refine lv_if_le (tgt := 35) hx hb dX0_customerNamedBy_25 (by decide) (fun c25 => ?_) (fun c25 => ?_)
          · -- 25 taken
            have hg2 : nmd B rf n 0 = nmd B rf (n - (i + 1)) (i + 1) := by rw [hg, nmd, if_neg (fun z => z.2 c25)]
            refine lv_iinc (v := nI (i + 1)) (lv' := [(2, .int (nI (i + 1))), (0, .ref (a 1)), (1, .int (rf))]) hx hb dX0_customerNamedBy_35 hl (k := 0) rfl (nI_1 _) (by decide) rfl (fun ls hl => ?_)
            refine lv_goto (tgt := 2) hx hb dX0_customerNamedBy_38 (by decide) ?_
            exact ih2 (i + 1) (by omega) hg2 (by omega) _ _ hP hD hS _ (lv_sub hl [0, 1, 2] rfl)
          · -- 25 on
            refine lv_aload_n hx hb dX0_customerNamedBy_28 rfl (lv_at hl 1 rfl) ?_
            refine va_get (D := D) (ci := 0) (v := .ref (a 2)) (C := RX0) (T := TX0) (N := 12) hx hb hts (fun w h => List.mem_cons_of_mem _ (List.mem_append_right _ h)) hown hK hP 0 rfl rfl 0 (by decide) (hts (.fieldLink RX0 9 "CashAllocator$BillBook" "customer" "[I") (by decide +kernel)) (fun _ h9 => h9) rfl dX0_customerNamedBy_29 ?_
            refine lv_iload_n hx hb dX0_customerNamedBy_32 rfl (lv_at hl 0 rfl) ?_
            refine zald hx hb hK hP 1 (n := 40) (f := (B 0)) rfl (i) rfl (by omega) (by decide) dX0_customerNamedBy_33 ?_
            have hfin : B 0 i = nmd B rf n 0 := by rw [hg, nmd, if_pos ⟨by simpa using c17, c25⟩]
            exact W.iret (v := B 0 (i)) hx hb hr (fun t ht hW => ⟨⟨B 0 (i), (), rfl, hfin, by rw [ht]; exact hP, va_K.moved hW.alike hK, hD⟩, hS.F ht⟩) hS.2.2 dX0_customerNamedBy_34
  exact loop2 _ (0) (Nat.zero_le _) (by rw [Nat.sub_zero]) (Nat.lt_succ_self _) _ _ hP hD hS _ (lv_sub hl [0, 1, 2] rfl)
set_option maxHeartbeats 4000000 in
set_option maxRecDepth 100000 in
theorem c_X0_takeDiscount (l : Launch) (D : va_G) (cI cZ : ClassId) (a : Nat → Nat) (sz : Nat) (B : Nat → Nat → Int32) (i : Nat) (rc : Int32) (dy : Int32) (hi : i < 40) : Met l yX0_takeDiscount wsX0_takeDiscount ({ frames := 2, cells := 0, slots := 0, locals := 43 } : Room) (va_Pc [.ref (a 1), .int (nI (i)), .int (rc), .int (dy)] (PreW D cI cZ (wBB a cI B) sz)) (va_Qv (fun (u : Nat → Nat → Int32) => u = tkD B i rc dy) (fun (u : Nat → Nat → Int32) => PostW D cI cZ (va_A (wBB a cI B) sz) (wBB a cI u)) (va_A (wBB a cI B) sz)) 0 0 (va_A (wBB a cI B) sz) := by
  refine Met.ofW (cc := cX0_takeDiscount) (maxL := 4) (ret := none) (by decide) rfl ?_
  intro p e s m args below meth c s₁ BB hml hv
  obtain ⟨rfl, hsz, hP, hK, hD0⟩ := hv
  have hx := BB.exec
  have hb := BB.bytes
  have hr := BB.returns
  have hts := atoms_spec (ws := wsX0_takeDiscount) BB.pre
  have hown : s.vm.findClass RX0 = some m.cls := findClass_of_methodNamed BB.named
  have hlocks := BB.notSynchronized
  clear BB
  subst hsz
  have hD := hD0.self (sz := s.heap.size)
  clear hD0
  generalize hAe : va_A (wBB a cI B) s.heap.size = A at hD ⊢
  have hA : ∀ q : Nat, s.heap.size ≤ q → A q := fun q h => by rw [← hAe]; exact Or.inr h
  clear hAe
  have hS : va_S A s.heap s.heap [] := va_S.rf
  have hl := lv_entry ([.ref (a 1), .int (nI (i)), .int (rc), .int (dy)]) (n := 4) (Nat.le_of_ble_eq_true rfl)
  rw [lg_entry_eq]
  generalize (lg_sl ([.ref (a 1), .int (nI (i)), .int (rc), .int (dy)]) ++ List.replicate (4 - (lg_sl ([.ref (a 1), .int (nI (i)), .int (rc), .int (dy)])).length) Slot.unset).toArray = ls at hl ⊢
  have hl : lv_has ls 4 [(0, .ref (a 1)), (1, .int (nI (i))), (2, .int (rc)), (3, .int (dy))] := hl
  generalize hHe : s.heap = H at hP
  have hS : va_S A s.heap H [] := by rw [← hHe]; exact va_S.rf
  clear hHe
  generalize hLe : ([] : List Loc) = locs at hS ⊢
  clear hLe
  refine lv_aload_n hx hb dX0_takeDiscount_0 rfl (lv_at hl 0 rfl) ?_
  refine lv_iload_n hx hb dX0_takeDiscount_1 rfl (lv_at hl 1 rfl) ?_
  refine lv_iload_n hx hb dX0_takeDiscount_2 rfl (lv_at hl 3 rfl) ?_
  refine zcVi (ci := 0) (q0 := 0) (wf := (fun (u : Unit) => (wBB a cI B))) (List.range 12) ⟨hx, hb, hml, hown, hts⟩ (zwAll 12 (by decide) rfl hP hD hS hA) hK (c_X0_allowsDiscount l D cI cZ a H.size (B) (i) (dy) (by first | assumption | omega)) (cwV 2 hts gX0_takeDiscount_X0_allowsDiscount rfl rfl rfl (by decide +kernel) ⟨Nat.le_of_ble_eq_true rfl, Nat.le_of_ble_eq_true rfl⟩) rfl rfl (by decide) (fun _ => rfl) rfl hl.1 rfl (Nat.le_of_ble_eq_true rfl) dX0_takeDiscount_3 ⟨Nat.le_of_ble_eq_true rfl, Nat.le_of_ble_eq_true rfl⟩ (fun r3 u H locs hw hP hD hS => ?_)
  subst hw
  refine lv_if_eq (tgt := 28) hx hb dX0_takeDiscount_6 (by decide) (fun c6 => ?_) (fun c6 => ?_)
  · -- 6 taken
    have c6 := b2_0 c6
    exact W.vret hx hb hr (fun t ht hW => ⟨⟨B, rfl, by simp only [tkD]; first | rw [if_pos c6] | rw [if_neg c6], by rw [ht]; exact hP, va_K.moved hW.alike hK, hD⟩, hS.F ht⟩) hS.2.2 dX0_takeDiscount_28
  · -- 6 on
    have c6 := b2_1 c6
    refine lv_aload_n hx hb dX0_takeDiscount_9 rfl (lv_at hl 0 rfl) ?_
    refine va_get (D := D) (ci := 0) (v := .ref (a 8)) (C := RX0) (T := TX0) (N := 12) hx hb hts (fun w h => List.mem_cons_of_mem _ (List.mem_append_right _ h)) hown hK hP 0 rfl rfl 6 (by decide) (hts (.fieldLink RX0 30 "CashAllocator$BillBook" "taken" "[I") (by decide +kernel)) (fun _ h9 => h9) rfl dX0_takeDiscount_10 ?_
    refine lv_iload_n hx hb dX0_takeDiscount_13 rfl (lv_at hl 1 rfl) ?_
    refine lv_aload_n hx hb dX0_takeDiscount_14 rfl (lv_at hl 0 rfl) ?_
    refine va_get (D := D) (ci := 0) (v := .ref (a 5)) (C := RX0) (T := TX0) (N := 12) hx hb hts (fun w h => List.mem_cons_of_mem _ (List.mem_append_right _ h)) hown hK hP 0 rfl rfl 3 (by decide) (hts (.fieldLink RX0 21 "CashAllocator$BillBook" "discount" "[I") (by decide +kernel)) (fun _ h9 => h9) rfl dX0_takeDiscount_15 ?_
    refine lv_iload_n hx hb dX0_takeDiscount_18 rfl (lv_at hl 1 rfl) ?_
    refine zald hx hb hK hP 4 (n := 40) (f := (B 3)) rfl (i) rfl (by omega) (by decide) dX0_takeDiscount_19 ?_
    refine zast hx hb hK hP hD hS 7 (n := 40) (f := (B 6)) rfl (i) rfl (by omega) (by decide) (wBB a cI (pt B 6 (i) (B 3 (i)))) rfl dX0_takeDiscount_20 (fun H locs hP hD hS => ?_)
    refine lv_aload_n hx hb dX0_takeDiscount_21 rfl (lv_at hl 0 rfl) ?_
    refine va_get (D := D) (ci := 0) (v := .ref (a 9)) (C := RX0) (T := TX0) (N := 12) hx hb hts (fun w h => List.mem_cons_of_mem _ (List.mem_append_right _ h)) hown hK hP 0 rfl rfl 7 (by decide) (hts (.fieldLink RX0 33 "CashAllocator$BillBook" "takenBy" "[I") (by decide +kernel)) (fun _ h9 => h9) rfl dX0_takeDiscount_22 ?_
    refine lv_iload_n hx hb dX0_takeDiscount_25 rfl (lv_at hl 1 rfl) ?_
    refine lv_iload_n hx hb dX0_takeDiscount_26 rfl (lv_at hl 2 rfl) ?_
    refine zast hx hb hK hP hD hS 8 (n := 40) (f := (B 7)) rfl (i) rfl (by omega) (by decide) (wBB a cI (pt (pt B 6 (i) (B 3 (i))) 7 (i) (rc))) rfl dX0_takeDiscount_27 (fun H locs hP hD hS => ?_)
    exact W.vret hx hb hr (fun t ht hW => ⟨⟨(pt (pt B 6 (i) (B 3 (i))) 7 (i) (rc)), rfl, by simp only [tkD]; first | rw [if_pos c6] | rw [if_neg c6], by rw [ht]; exact hP, va_K.moved hW.alike hK, hD⟩, hS.F ht⟩) hS.2.2 dX0_takeDiscount_28
set_option maxHeartbeats 4000000 in
set_option maxRecDepth 100000 in
theorem c_X0_disputeRest (l : Launch) (D : va_G) (cI cZ : ClassId) (a : Nat → Nat) (sz : Nat) (B : Nat → Nat → Int32) (i : Nat) (rc : Int32) (hi : i < 40) : Met l yX0_disputeRest wsX0_disputeRest ({ frames := 1, cells := 0, slots := 0, locals := 21 } : Room) (va_Pc [.ref (a 1), .int (nI (i)), .int (rc)] (PreW D cI cZ (wBB a cI B) sz)) (va_Qv (fun (u : Nat → Nat → Int32) => u = dsp B i rc) (fun (u : Nat → Nat → Int32) => PostW D cI cZ (va_A (wBB a cI B) sz) (wBB a cI u)) (va_A (wBB a cI B) sz)) 0 0 (va_A (wBB a cI B) sz) := by
  refine Met.ofW (cc := cX0_disputeRest) (maxL := 3) (ret := none) (by decide) rfl ?_
  intro p e s m args below meth c s₁ BB hml hv
  obtain ⟨rfl, hsz, hP, hK, hD0⟩ := hv
  have hx := BB.exec
  have hb := BB.bytes
  have hr := BB.returns
  have hts := atoms_spec (ws := wsX0_disputeRest) BB.pre
  have hown : s.vm.findClass RX0 = some m.cls := findClass_of_methodNamed BB.named
  have hlocks := BB.notSynchronized
  clear BB
  subst hsz
  have hD := hD0.self (sz := s.heap.size)
  clear hD0
  generalize hAe : va_A (wBB a cI B) s.heap.size = A at hD ⊢
  have hA : ∀ q : Nat, s.heap.size ≤ q → A q := fun q h => by rw [← hAe]; exact Or.inr h
  clear hAe
  have hS : va_S A s.heap s.heap [] := va_S.rf
  have hl := lv_entry ([.ref (a 1), .int (nI (i)), .int (rc)]) (n := 3) (Nat.le_of_ble_eq_true rfl)
  rw [lg_entry_eq]
  generalize (lg_sl ([.ref (a 1), .int (nI (i)), .int (rc)]) ++ List.replicate (3 - (lg_sl ([.ref (a 1), .int (nI (i)), .int (rc)])).length) Slot.unset).toArray = ls at hl ⊢
  have hl : lv_has ls 3 [(0, .ref (a 1)), (1, .int (nI (i))), (2, .int (rc))] := hl
  generalize hHe : s.heap = H at hP
  have hS : va_S A s.heap H [] := by rw [← hHe]; exact va_S.rf
  clear hHe
  generalize hLe : ([] : List Loc) = locs at hS ⊢
  clear hLe
  refine lv_aload_n hx hb dX0_disputeRest_0 rfl (lv_at hl 0 rfl) ?_
  refine va_get (D := D) (ci := 0) (v := .ref (a 10)) (C := RX0) (T := TX0) (N := 12) hx hb hts (fun w h => List.mem_cons_of_mem _ (List.mem_append_right _ h)) hown hK hP 0 rfl rfl 8 (by decide) (hts (.fieldLink RX0 36 "CashAllocator$BillBook" "disputed" "[I") (by decide +kernel)) (fun _ h9 => h9) rfl dX0_disputeRest_1 ?_
  refine lv_iload_n hx hb dX0_disputeRest_4 rfl (lv_at hl 1 rfl) ?_
  refine lv_dup2_11 hx hb dX0_disputeRest_5 rfl rfl ?_
  refine zald hx hb hK hP 9 (n := 40) (f := (B 8)) rfl (i) rfl (by omega) (by decide) dX0_disputeRest_6 ?_
  refine lv_aload_n hx hb dX0_disputeRest_7 rfl (lv_at hl 0 rfl) ?_
  refine lv_iload_n hx hb dX0_disputeRest_8 rfl (lv_at hl 1 rfl) ?_
  refine zcVi (ci := 0) (q0 := 0) (wf := (fun (u : Unit) => (wBB a cI B))) (List.range 12) ⟨hx, hb, hml, hown, hts⟩ (zwAll 12 (by decide) rfl hP hD hS hA) hK (c_X0_openSum l D cI cZ a H.size (B) (i) (by first | assumption | omega)) (cwV 1 hts gX0_disputeRest_X0_openSum rfl rfl rfl (by decide +kernel) ⟨Nat.le_of_ble_eq_true rfl, Nat.le_of_ble_eq_true rfl⟩) rfl rfl (by decide) (fun _ => rfl) rfl hl.1 rfl (Nat.le_of_ble_eq_true rfl) dX0_disputeRest_9 ⟨Nat.le_of_ble_eq_true rfl, Nat.le_of_ble_eq_true rfl⟩ (fun r9 u H locs hw hP hD hS => ?_)
  subst hw
  refine lv_iadd hx hb dX0_disputeRest_12 ?_
  refine zast hx hb hK hP hD hS 9 (n := 40) (f := (B 8)) rfl (i) rfl (by omega) (by decide) (wBB a cI (pt B 8 (i) ((B 8 (i)) + (opn (B) (i))))) rfl dX0_disputeRest_13 (fun H locs hP hD hS => ?_)
  refine lv_aload_n hx hb dX0_disputeRest_14 rfl (lv_at hl 0 rfl) ?_
  refine va_get (D := D) (ci := 0) (v := .ref (a 11)) (C := RX0) (T := TX0) (N := 12) hx hb hts (fun w h => List.mem_cons_of_mem _ (List.mem_append_right _ h)) hown hK hP 0 rfl rfl 9 (by decide) (hts (.fieldLink RX0 39 "CashAllocator$BillBook" "disputedBy" "[I") (by decide +kernel)) (fun _ h9 => h9) rfl dX0_disputeRest_15 ?_
  refine lv_iload_n hx hb dX0_disputeRest_18 rfl (lv_at hl 1 rfl) ?_
  refine lv_iload_n hx hb dX0_disputeRest_19 rfl (lv_at hl 2 rfl) ?_
  refine zast hx hb hK hP hD hS 10 (n := 40) (f := (B 9)) rfl (i) rfl (by omega) (by decide) (wBB a cI (pt (pt B 8 (i) ((B 8 (i)) + (opn (B) (i)))) 9 (i) (rc))) rfl dX0_disputeRest_20 (fun H locs hP hD hS => ?_)
  exact W.vret hx hb hr (fun t ht hW => ⟨⟨(pt (pt B 8 (i) ((B 8 (i)) + (opn (B) (i)))) 9 (i) (rc)), rfl, rfl, by rw [ht]; exact hP, va_K.moved hW.alike hK, hD⟩, hS.F ht⟩) hS.2.2 dX0_disputeRest_21
set_option maxHeartbeats 4000000 in
set_option maxRecDepth 100000 in
theorem c_X0_endDispute (l : Launch) (D : va_G) (cI cZ : ClassId) (a : Nat → Nat) (sz : Nat) (B : Nat → Nat → Int32) (i : Nat) (zz : Int32) (hi : i < 40) : Met l yX0_endDispute wsX0_endDispute ({ frames := 0, cells := 0, slots := 0, locals := 0 } : Room) (va_Pc [.ref (a 1), .int (nI (i)), .int (zz)] (PreW D cI cZ (wBB a cI B) sz)) (va_Qi (fun (r : Int32) (u : Nat → Nat → Int32) => r = B 8 i ∧ u = edD B i zz) (fun (u : Nat → Nat → Int32) => PostW D cI cZ (va_A (wBB a cI B) sz) (wBB a cI u)) (va_A (wBB a cI B) sz)) 0 0 (va_A (wBB a cI B) sz) := by
  refine Met.ofW (cc := cX0_endDispute) (maxL := 4) (ret := (some .int)) (by decide) rfl ?_
  intro p e s m args below meth c s₁ BB hml hv
  obtain ⟨rfl, hsz, hP, hK, hD0⟩ := hv
  have hx := BB.exec
  have hb := BB.bytes
  have hr := BB.returns
  have hts := atoms_spec (ws := wsX0_endDispute) BB.pre
  have hown : s.vm.findClass RX0 = some m.cls := findClass_of_methodNamed BB.named
  have hlocks := BB.notSynchronized
  clear BB
  subst hsz
  have hD := hD0.self (sz := s.heap.size)
  clear hD0
  generalize hAe : va_A (wBB a cI B) s.heap.size = A at hD ⊢
  have hA : ∀ q : Nat, s.heap.size ≤ q → A q := fun q h => by rw [← hAe]; exact Or.inr h
  clear hAe
  have hS : va_S A s.heap s.heap [] := va_S.rf
  have hl := lv_entry ([.ref (a 1), .int (nI (i)), .int (zz)]) (n := 4) (Nat.le_of_ble_eq_true rfl)
  rw [lg_entry_eq]
  generalize (lg_sl ([.ref (a 1), .int (nI (i)), .int (zz)]) ++ List.replicate (4 - (lg_sl ([.ref (a 1), .int (nI (i)), .int (zz)])).length) Slot.unset).toArray = ls at hl ⊢
  have hl : lv_has ls 4 [(0, .ref (a 1)), (1, .int (nI (i))), (2, .int (zz))] := hl
  generalize hHe : s.heap = H at hP
  have hS : va_S A s.heap H [] := by rw [← hHe]; exact va_S.rf
  clear hHe
  generalize hLe : ([] : List Loc) = locs at hS ⊢
  clear hLe
  refine lv_aload_n hx hb dX0_endDispute_0 rfl (lv_at hl 0 rfl) ?_
  refine va_get (D := D) (ci := 0) (v := .ref (a 10)) (C := RX0) (T := TX0) (N := 12) hx hb hts (fun w h => List.mem_cons_of_mem _ (List.mem_append_right _ h)) hown hK hP 0 rfl rfl 8 (by decide) (hts (.fieldLink RX0 36 "CashAllocator$BillBook" "disputed" "[I") (by decide +kernel)) (fun _ h9 => h9) rfl dX0_endDispute_1 ?_
  refine lv_iload_n hx hb dX0_endDispute_4 rfl (lv_at hl 1 rfl) ?_
  refine zald hx hb hK hP 9 (n := 40) (f := (B 8)) rfl (i) rfl (by omega) (by decide) dX0_endDispute_5 ?_
  refine lv_istore_n (lv' := [(3, .int (B 8 (i))), (0, .ref (a 1)), (1, .int (nI (i))), (2, .int (zz))]) hx hb dX0_endDispute_6 rfl hl (by decide) rfl (fun ls hl => ?_)
  refine lv_iload_n hx hb dX0_endDispute_7 rfl (lv_at hl 3 rfl) ?_
  refine lv_if_eq (tgt := 21) hx hb dX0_endDispute_8 (by decide) (fun c8 => ?_) (fun c8 => ?_)
  · -- 8 taken
    refine lv_aload_n hx hb dX0_endDispute_21 rfl (lv_at hl 1 rfl) ?_
    refine va_get (D := D) (ci := 0) (v := .ref (a 10)) (C := RX0) (T := TX0) (N := 12) hx hb hts (fun w h => List.mem_cons_of_mem _ (List.mem_append_right _ h)) hown hK hP 0 rfl rfl 8 (by decide) (hts (.fieldLink RX0 36 "CashAllocator$BillBook" "disputed" "[I") (by decide +kernel)) (fun _ h9 => h9) rfl dX0_endDispute_22 ?_
    refine lv_iload_n hx hb dX0_endDispute_25 rfl (lv_at hl 2 rfl) ?_
    refine lv_iconst (v := 0) hx hb dX0_endDispute_26 (by decide) ?_
    refine zast hx hb hK hP hD hS 9 (n := 40) (f := (B 8)) rfl (i) rfl (by omega) (by decide) (wBB a cI (pt B 8 (i) (0))) rfl dX0_endDispute_27 (fun H locs hP hD hS => ?_)
    refine lv_aload_n hx hb dX0_endDispute_28 rfl (lv_at hl 1 rfl) ?_
    refine va_get (D := D) (ci := 0) (v := .ref (a 11)) (C := RX0) (T := TX0) (N := 12) hx hb hts (fun w h => List.mem_cons_of_mem _ (List.mem_append_right _ h)) hown hK hP 0 rfl rfl 9 (by decide) (hts (.fieldLink RX0 39 "CashAllocator$BillBook" "disputedBy" "[I") (by decide +kernel)) (fun _ h9 => h9) rfl dX0_endDispute_29 ?_
    refine lv_iload_n hx hb dX0_endDispute_32 rfl (lv_at hl 2 rfl) ?_
    refine lv_iconst (v := (-1)) hx hb dX0_endDispute_33 (by decide) ?_
    refine zast hx hb hK hP hD hS 10 (n := 40) (f := (B 9)) rfl (i) rfl (by omega) (by decide) (wBB a cI (pt (pt B 8 (i) (0)) 9 (i) ((-1)))) rfl dX0_endDispute_34 (fun H locs hP hD hS => ?_)
    refine lv_iload_n hx hb dX0_endDispute_35 rfl (lv_at hl 0 rfl) ?_
    exact W.iret (v := B 8 (i)) hx hb hr (fun t ht hW => ⟨⟨B 8 (i), (pt (pt B 8 (i) (0)) 9 (i) ((-1))), rfl, ⟨rfl, by simp only [edD]; first | rw [if_pos c8] | rw [if_neg c8]⟩, by rw [ht]; exact hP, va_K.moved hW.alike hK, hD⟩, hS.F ht⟩) hS.2.2 dX0_endDispute_36
  · -- 8 on
    refine lv_aload_n hx hb dX0_endDispute_11 rfl (lv_at hl 1 rfl) ?_
    refine va_get (D := D) (ci := 0) (v := .ref (a 12)) (C := RX0) (T := TX0) (N := 12) hx hb hts (fun w h => List.mem_cons_of_mem _ (List.mem_append_right _ h)) hown hK hP 0 rfl rfl 10 (by decide) (hts (.fieldLink RX0 42 "CashAllocator$BillBook" "writtenOff" "[I") (by decide +kernel)) (fun _ h9 => h9) rfl dX0_endDispute_12 ?_
    refine lv_iload_n hx hb dX0_endDispute_15 rfl (lv_at hl 2 rfl) ?_
    refine lv_dup2_11 hx hb dX0_endDispute_16 rfl rfl ?_
    refine zald hx hb hK hP 11 (n := 40) (f := (B 10)) rfl (i) rfl (by omega) (by decide) dX0_endDispute_17 ?_
    refine lv_iload_n hx hb dX0_endDispute_18 rfl (lv_at hl 0 rfl) ?_
    refine lv_iadd hx hb dX0_endDispute_19 ?_
    refine zast hx hb hK hP hD hS 11 (n := 40) (f := (B 10)) rfl (i) rfl (by omega) (by decide) (wBB a cI (pt B 10 (i) ((B 10 (i)) + (B 8 (i))))) rfl dX0_endDispute_20 (fun H locs hP hD hS => ?_)
    refine lv_aload_n hx hb dX0_endDispute_21 rfl (lv_at hl 1 rfl) ?_
    refine va_get (D := D) (ci := 0) (v := .ref (a 10)) (C := RX0) (T := TX0) (N := 12) hx hb hts (fun w h => List.mem_cons_of_mem _ (List.mem_append_right _ h)) hown hK hP 0 rfl rfl 8 (by decide) (hts (.fieldLink RX0 36 "CashAllocator$BillBook" "disputed" "[I") (by decide +kernel)) (fun _ h9 => h9) rfl dX0_endDispute_22 ?_
    refine lv_iload_n hx hb dX0_endDispute_25 rfl (lv_at hl 2 rfl) ?_
    refine lv_iconst (v := 0) hx hb dX0_endDispute_26 (by decide) ?_
    refine zast hx hb hK hP hD hS 9 (n := 40) (f := (B 8)) rfl (i) rfl (by omega) (by decide) (wBB a cI (pt (pt B 10 (i) ((B 10 (i)) + (B 8 (i)))) 8 (i) (0))) rfl dX0_endDispute_27 (fun H locs hP hD hS => ?_)
    refine lv_aload_n hx hb dX0_endDispute_28 rfl (lv_at hl 1 rfl) ?_
    refine va_get (D := D) (ci := 0) (v := .ref (a 11)) (C := RX0) (T := TX0) (N := 12) hx hb hts (fun w h => List.mem_cons_of_mem _ (List.mem_append_right _ h)) hown hK hP 0 rfl rfl 9 (by decide) (hts (.fieldLink RX0 39 "CashAllocator$BillBook" "disputedBy" "[I") (by decide +kernel)) (fun _ h9 => h9) rfl dX0_endDispute_29 ?_
    refine lv_iload_n hx hb dX0_endDispute_32 rfl (lv_at hl 2 rfl) ?_
    refine lv_iconst (v := (-1)) hx hb dX0_endDispute_33 (by decide) ?_
    refine zast hx hb hK hP hD hS 10 (n := 40) (f := (B 9)) rfl (i) rfl (by omega) (by decide) (wBB a cI (pt (pt (pt B 10 (i) ((B 10 (i)) + (B 8 (i)))) 8 (i) (0)) 9 (i) ((-1)))) rfl dX0_endDispute_34 (fun H locs hP hD hS => ?_)
    refine lv_iload_n hx hb dX0_endDispute_35 rfl (lv_at hl 0 rfl) ?_
    exact W.iret (v := B 8 (i)) hx hb hr (fun t ht hW => ⟨⟨B 8 (i), (pt (pt (pt B 10 (i) ((B 10 (i)) + (B 8 (i)))) 8 (i) (0)) 9 (i) ((-1))), rfl, ⟨rfl, by simp only [edD]; first | rw [if_pos c8] | rw [if_neg c8]⟩, by rw [ht]; exact hP, va_K.moved hW.alike hK, hD⟩, hS.F ht⟩) hS.2.2 dX0_endDispute_36
set_option maxHeartbeats 4000000 in
set_option maxRecDepth 100000 in
theorem c_X0_undo (l : Launch) (D : va_G) (cI cZ : ClassId) (a : Nat → Nat) (sz : Nat) (B : Nat → Nat → Int32) (i : Nat) (rc : Int32) (sm : Int32) (hi : i < 40) : Met l yX0_undo wsX0_undo ({ frames := 1, cells := 0, slots := 0, locals := 23 } : Room) (va_Pc [.ref (a 1), .int (nI (i)), .int (rc), .int (sm)] (PreW D cI cZ (wBB a cI B) sz)) (va_Qv (fun (u : Nat → Nat → Int32) => u = und B i rc sm) (fun (u : Nat → Nat → Int32) => PostW D cI cZ (va_A (wBB a cI B) sz) (wBB a cI u)) (va_A (wBB a cI B) sz)) 0 0 (va_A (wBB a cI B) sz) := by
  refine Met.ofW (cc := cX0_undo) (maxL := 4) (ret := none) (by decide) rfl ?_
  intro p e s m args below meth c s₁ BB hml hv
  obtain ⟨rfl, hsz, hP, hK, hD0⟩ := hv
  have hx := BB.exec
  have hb := BB.bytes
  have hr := BB.returns
  have hts := atoms_spec (ws := wsX0_undo) BB.pre
  have hown : s.vm.findClass RX0 = some m.cls := findClass_of_methodNamed BB.named
  have hlocks := BB.notSynchronized
  clear BB
  subst hsz
  have hD := hD0.self (sz := s.heap.size)
  clear hD0
  generalize hAe : va_A (wBB a cI B) s.heap.size = A at hD ⊢
  have hA : ∀ q : Nat, s.heap.size ≤ q → A q := fun q h => by rw [← hAe]; exact Or.inr h
  clear hAe
  have hS : va_S A s.heap s.heap [] := va_S.rf
  have hl := lv_entry ([.ref (a 1), .int (nI (i)), .int (rc), .int (sm)]) (n := 4) (Nat.le_of_ble_eq_true rfl)
  rw [lg_entry_eq]
  generalize (lg_sl ([.ref (a 1), .int (nI (i)), .int (rc), .int (sm)]) ++ List.replicate (4 - (lg_sl ([.ref (a 1), .int (nI (i)), .int (rc), .int (sm)])).length) Slot.unset).toArray = ls at hl ⊢
  have hl : lv_has ls 4 [(0, .ref (a 1)), (1, .int (nI (i))), (2, .int (rc)), (3, .int (sm))] := hl
  generalize hHe : s.heap = H at hP
  have hS : va_S A s.heap H [] := by rw [← hHe]; exact va_S.rf
  clear hHe
  generalize hLe : ([] : List Loc) = locs at hS ⊢
  clear hLe
  refine lv_aload_n hx hb dX0_undo_0 rfl (lv_at hl 0 rfl) ?_
  refine va_get (D := D) (ci := 0) (v := .ref (a 7)) (C := RX0) (T := TX0) (N := 12) hx hb hts (fun w h => List.mem_cons_of_mem _ (List.mem_append_right _ h)) hown hK hP 0 rfl rfl 5 (by decide) (hts (.fieldLink RX0 27 "CashAllocator$BillBook" "paid" "[I") (by decide +kernel)) (fun _ h9 => h9) rfl dX0_undo_1 ?_
  refine lv_iload_n hx hb dX0_undo_4 rfl (lv_at hl 1 rfl) ?_
  refine lv_dup2_11 hx hb dX0_undo_5 rfl rfl ?_
  refine zald hx hb hK hP 6 (n := 40) (f := (B 5)) rfl (i) rfl (by omega) (by decide) dX0_undo_6 ?_
  refine lv_iload_n hx hb dX0_undo_7 rfl (lv_at hl 3 rfl) ?_
  refine lv_isub hx hb dX0_undo_8 ?_
  refine zast hx hb hK hP hD hS 6 (n := 40) (f := (B 5)) rfl (i) rfl (by omega) (by decide) (wBB a cI (pt B 5 (i) ((B 5 (i)) - (sm)))) rfl dX0_undo_9 (fun H locs hP hD hS => ?_)
  refine lv_aload_n hx hb dX0_undo_10 rfl (lv_at hl 0 rfl) ?_
  refine va_get (D := D) (ci := 0) (v := .ref (a 9)) (C := RX0) (T := TX0) (N := 12) hx hb hts (fun w h => List.mem_cons_of_mem _ (List.mem_append_right _ h)) hown hK hP 0 rfl rfl 7 (by decide) (hts (.fieldLink RX0 33 "CashAllocator$BillBook" "takenBy" "[I") (by decide +kernel)) (fun _ h9 => h9) rfl dX0_undo_11 ?_
  refine lv_iload_n hx hb dX0_undo_14 rfl (lv_at hl 1 rfl) ?_
  refine zald hx hb hK hP 8 (n := 40) (f := (B 7)) rfl (i) rfl (by omega) (by decide) dX0_undo_15 ?_
  refine lv_iload_n hx hb dX0_undo_16 rfl (lv_at hl 2 rfl) ?_
  refine lv_icmp_ne (tgt := 34) hx hb dX0_undo_17 (by decide) (fun c17 => ?_) (fun c17 => ?_)
  · -- 17 taken
    refine lv_aload_n hx hb dX0_undo_34 rfl (lv_at hl 0 rfl) ?_
    refine va_get (D := D) (ci := 0) (v := .ref (a 11)) (C := RX0) (T := TX0) (N := 12) hx hb hts (fun w h => List.mem_cons_of_mem _ (List.mem_append_right _ h)) hown hK hP 0 rfl rfl 9 (by decide) (hts (.fieldLink RX0 39 "CashAllocator$BillBook" "disputedBy" "[I") (by decide +kernel)) (fun _ h9 => h9) rfl dX0_undo_35 ?_
    refine lv_iload_n hx hb dX0_undo_38 rfl (lv_at hl 1 rfl) ?_
    refine zald hx hb hK hP 10 (n := 40) (f := (B 9)) rfl (i) rfl (by omega) (by decide) dX0_undo_39 ?_
    refine lv_iload_n hx hb dX0_undo_40 rfl (lv_at hl 2 rfl) ?_
    refine lv_icmp_ne (tgt := 51) hx hb dX0_undo_41 (by decide) (fun c41 => ?_) (fun c41 => ?_)
    · -- 41 taken
      have c41 : ¬ ((pt B 5 (i) ((B 5 (i)) - (sm)))) 9 i = rc := c41
      exact W.vret hx hb hr (fun t ht hW => ⟨⟨(pt B 5 (i) ((B 5 (i)) - (sm))), rfl, by unfold und und2 und1; first | rw [if_pos c17, if_pos c41] | rw [if_pos c17, if_neg c41] | rw [if_neg c17, if_pos c41] | rw [if_neg c17, if_neg c41], by rw [ht]; exact hP, va_K.moved hW.alike hK, hD⟩, hS.F ht⟩) hS.2.2 dX0_undo_51
    · -- 41 on
      refine lv_aload_n hx hb dX0_undo_44 rfl (lv_at hl 0 rfl) ?_
      refine lv_iload_n hx hb dX0_undo_45 rfl (lv_at hl 1 rfl) ?_
      refine lv_iconst (v := 0) hx hb dX0_undo_46 (by decide) ?_
      refine zcVi (ci := 0) (q0 := 0) (wf := (fun (u : Nat → Nat → Int32) => (wBB a cI u))) (List.range 12) ⟨hx, hb, hml, hown, hts⟩ (zwAll 12 (by decide) rfl hP hD hS hA) hK (c_X0_endDispute l D cI cZ a H.size ((pt B 5 (i) ((B 5 (i)) - (sm)))) (i) (0) (by first | assumption | omega)) (cwV 2 hts gX0_undo_X0_endDispute rfl rfl rfl (by decide +kernel) ⟨Nat.le_of_ble_eq_true rfl, Nat.le_of_ble_eq_true rfl⟩) rfl rfl (by decide) (fun _ => rfl) rfl hl.1 rfl (Nat.le_of_ble_eq_true rfl) dX0_undo_47 ⟨Nat.le_of_ble_eq_true rfl, Nat.le_of_ble_eq_true rfl⟩ (fun r47 u H locs hw hP hD hS => ?_)
      obtain ⟨rfl, rfl⟩ := hw
      have hP : va_P D vwCl (wBB a cI (edD ((pt B 5 (i) ((B 5 (i)) - (sm)))) (i) (0))) H := hP
      have hD : va_D A (wBB a cI (edD ((pt B 5 (i) ((B 5 (i)) - (sm)))) (i) (0))) := hD
      refine lv_pop hx hb dX0_undo_50 rfl ?_
      have c41 : ((pt B 5 (i) ((B 5 (i)) - (sm)))) 9 i = rc := c41
      exact W.vret hx hb hr (fun t ht hW => ⟨⟨(edD ((pt B 5 (i) ((B 5 (i)) - (sm)))) (i) (0)), rfl, by unfold und und2 und1; first | rw [if_pos c17, if_pos c41] | rw [if_pos c17, if_neg c41] | rw [if_neg c17, if_pos c41] | rw [if_neg c17, if_neg c41], by rw [ht]; exact hP, va_K.moved hW.alike hK, hD⟩, hS.F ht⟩) hS.2.2 dX0_undo_51
  · -- 17 on
    refine lv_aload_n hx hb dX0_undo_20 rfl (lv_at hl 0 rfl) ?_
    refine va_get (D := D) (ci := 0) (v := .ref (a 8)) (C := RX0) (T := TX0) (N := 12) hx hb hts (fun w h => List.mem_cons_of_mem _ (List.mem_append_right _ h)) hown hK hP 0 rfl rfl 6 (by decide) (hts (.fieldLink RX0 30 "CashAllocator$BillBook" "taken" "[I") (by decide +kernel)) (fun _ h9 => h9) rfl dX0_undo_21 ?_
    refine lv_iload_n hx hb dX0_undo_24 rfl (lv_at hl 1 rfl) ?_
    refine lv_iconst (v := 0) hx hb dX0_undo_25 (by decide) ?_
    refine zast hx hb hK hP hD hS 7 (n := 40) (f := (B 6)) rfl (i) rfl (by omega) (by decide) (wBB a cI (pt (pt B 5 (i) ((B 5 (i)) - (sm))) 6 (i) (0))) rfl dX0_undo_26 (fun H locs hP hD hS => ?_)
    refine lv_aload_n hx hb dX0_undo_27 rfl (lv_at hl 0 rfl) ?_
    refine va_get (D := D) (ci := 0) (v := .ref (a 9)) (C := RX0) (T := TX0) (N := 12) hx hb hts (fun w h => List.mem_cons_of_mem _ (List.mem_append_right _ h)) hown hK hP 0 rfl rfl 7 (by decide) (hts (.fieldLink RX0 33 "CashAllocator$BillBook" "takenBy" "[I") (by decide +kernel)) (fun _ h9 => h9) rfl dX0_undo_28 ?_
    refine lv_iload_n hx hb dX0_undo_31 rfl (lv_at hl 1 rfl) ?_
    refine lv_iconst (v := (-1)) hx hb dX0_undo_32 (by decide) ?_
    refine zast hx hb hK hP hD hS 8 (n := 40) (f := (B 7)) rfl (i) rfl (by omega) (by decide) (wBB a cI (pt (pt (pt B 5 (i) ((B 5 (i)) - (sm))) 6 (i) (0)) 7 (i) ((-1)))) rfl dX0_undo_33 (fun H locs hP hD hS => ?_)
    refine lv_aload_n hx hb dX0_undo_34 rfl (lv_at hl 0 rfl) ?_
    refine va_get (D := D) (ci := 0) (v := .ref (a 11)) (C := RX0) (T := TX0) (N := 12) hx hb hts (fun w h => List.mem_cons_of_mem _ (List.mem_append_right _ h)) hown hK hP 0 rfl rfl 9 (by decide) (hts (.fieldLink RX0 39 "CashAllocator$BillBook" "disputedBy" "[I") (by decide +kernel)) (fun _ h9 => h9) rfl dX0_undo_35 ?_
    refine lv_iload_n hx hb dX0_undo_38 rfl (lv_at hl 1 rfl) ?_
    refine zald hx hb hK hP 10 (n := 40) (f := (B 9)) rfl (i) rfl (by omega) (by decide) dX0_undo_39 ?_
    refine lv_iload_n hx hb dX0_undo_40 rfl (lv_at hl 2 rfl) ?_
    refine lv_icmp_ne (tgt := 51) hx hb dX0_undo_41 (by decide) (fun c41 => ?_) (fun c41 => ?_)
    · -- 41 taken
      have c41 : ¬ ((pt (pt (pt B 5 (i) ((B 5 (i)) - (sm))) 6 (i) (0)) 7 (i) ((-1)))) 9 i = rc := c41
      exact W.vret hx hb hr (fun t ht hW => ⟨⟨(pt (pt (pt B 5 (i) ((B 5 (i)) - (sm))) 6 (i) (0)) 7 (i) ((-1))), rfl, by unfold und und2 und1; first | rw [if_pos c17, if_pos c41] | rw [if_pos c17, if_neg c41] | rw [if_neg c17, if_pos c41] | rw [if_neg c17, if_neg c41], by rw [ht]; exact hP, va_K.moved hW.alike hK, hD⟩, hS.F ht⟩) hS.2.2 dX0_undo_51
    · -- 41 on
      refine lv_aload_n hx hb dX0_undo_44 rfl (lv_at hl 0 rfl) ?_
      refine lv_iload_n hx hb dX0_undo_45 rfl (lv_at hl 1 rfl) ?_
      refine lv_iconst (v := 0) hx hb dX0_undo_46 (by decide) ?_
      refine zcVi (ci := 0) (q0 := 0) (wf := (fun (u : Nat → Nat → Int32) => (wBB a cI u))) (List.range 12) ⟨hx, hb, hml, hown, hts⟩ (zwAll 12 (by decide) rfl hP hD hS hA) hK (c_X0_endDispute l D cI cZ a H.size ((pt (pt (pt B 5 (i) ((B 5 (i)) - (sm))) 6 (i) (0)) 7 (i) ((-1)))) (i) (0) (by first | assumption | omega)) (cwV 2 hts gX0_undo_X0_endDispute rfl rfl rfl (by decide +kernel) ⟨Nat.le_of_ble_eq_true rfl, Nat.le_of_ble_eq_true rfl⟩) rfl rfl (by decide) (fun _ => rfl) rfl hl.1 rfl (Nat.le_of_ble_eq_true rfl) dX0_undo_47 ⟨Nat.le_of_ble_eq_true rfl, Nat.le_of_ble_eq_true rfl⟩ (fun r47 u H locs hw hP hD hS => ?_)
      obtain ⟨rfl, rfl⟩ := hw
      have hP : va_P D vwCl (wBB a cI (edD ((pt (pt (pt B 5 (i) ((B 5 (i)) - (sm))) 6 (i) (0)) 7 (i) ((-1)))) (i) (0))) H := hP
      have hD : va_D A (wBB a cI (edD ((pt (pt (pt B 5 (i) ((B 5 (i)) - (sm))) 6 (i) (0)) 7 (i) ((-1)))) (i) (0))) := hD
      refine lv_pop hx hb dX0_undo_50 rfl ?_
      have c41 : ((pt (pt (pt B 5 (i) ((B 5 (i)) - (sm))) 6 (i) (0)) 7 (i) ((-1)))) 9 i = rc := c41
      exact W.vret hx hb hr (fun t ht hW => ⟨⟨(edD ((pt (pt (pt B 5 (i) ((B 5 (i)) - (sm))) 6 (i) (0)) 7 (i) ((-1)))) (i) (0)), rfl, by unfold und und2 und1; first | rw [if_pos c17, if_pos c41] | rw [if_pos c17, if_neg c41] | rw [if_neg c17, if_pos c41] | rw [if_neg c17, if_neg c41], by rw [ht]; exact hP, va_K.moved hW.alike hK, hD⟩, hS.F ht⟩) hS.2.2 dX0_undo_51
set_option maxHeartbeats 4000000 in
set_option maxRecDepth 100000 in
theorem c_X0_add (l : Launch) (D : va_G) (cI cZ : ClassId) (a : Nat → Nat) (sz : Nat) (B : Nat → Nat → Int32) (n : Nat) (cu : Int32) (am : Int32) (rf : Int32) (di : Int32) (un : Int32) (hB : B 11 0 = nI n) (hn : n < 40) : Met l yX0_add wsX0_add ({ frames := 0, cells := 0, slots := 0, locals := 0 } : Room) (va_Pc [.ref (a 1), .int (cu), .int (am), .int (rf), .int (di), .int (un)] (PreW D cI cZ (wBB a cI B) sz)) (va_Qi (fun (r : Int32) (u : Nat → Nat → Int32) => r = nI n ∧ u = addB B n cu am rf di un) (fun (u : Nat → Nat → Int32) => PostW D cI cZ (va_A (wBB a cI B) sz) (wBB a cI u)) (va_A (wBB a cI B) sz)) 0 0 (va_A (wBB a cI B) sz) := by
  refine Met.ofW (cc := cX0_add) (maxL := 7) (ret := (some .int)) (by decide) rfl ?_
  intro p e s m args below meth c s₁ BB hml hv
  obtain ⟨rfl, hsz, hP, hK, hD0⟩ := hv
  have hx := BB.exec
  have hb := BB.bytes
  have hr := BB.returns
  have hts := atoms_spec (ws := wsX0_add) BB.pre
  have hown : s.vm.findClass RX0 = some m.cls := findClass_of_methodNamed BB.named
  have hlocks := BB.notSynchronized
  clear BB
  subst hsz
  have hD := hD0.self (sz := s.heap.size)
  clear hD0
  generalize hAe : va_A (wBB a cI B) s.heap.size = A at hD ⊢
  have hA : ∀ q : Nat, s.heap.size ≤ q → A q := fun q h => by rw [← hAe]; exact Or.inr h
  clear hAe
  have hS : va_S A s.heap s.heap [] := va_S.rf
  have hl := lv_entry ([.ref (a 1), .int (cu), .int (am), .int (rf), .int (di), .int (un)]) (n := 7) (Nat.le_of_ble_eq_true rfl)
  rw [lg_entry_eq]
  generalize (lg_sl ([.ref (a 1), .int (cu), .int (am), .int (rf), .int (di), .int (un)]) ++ List.replicate (7 - (lg_sl ([.ref (a 1), .int (cu), .int (am), .int (rf), .int (di), .int (un)])).length) Slot.unset).toArray = ls at hl ⊢
  have hl : lv_has ls 7 [(0, .ref (a 1)), (1, .int (cu)), (2, .int (am)), (3, .int (rf)), (4, .int (di)), (5, .int (un))] := hl
  generalize hHe : s.heap = H at hP
  have hS : va_S A s.heap H [] := by rw [← hHe]; exact va_S.rf
  clear hHe
  generalize hLe : ([] : List Loc) = locs at hS ⊢
  clear hLe
  refine lv_aload_n hx hb dX0_add_0 rfl (lv_at hl 0 rfl) ?_
  refine va_get (D := D) (ci := 0) (v := .int (nI (n))) (C := RX0) (T := TX0) (N := 12) hx hb hts (fun w h => List.mem_cons_of_mem _ (List.mem_append_right _ h)) hown hK hP 0 rfl rfl 11 (by decide) (hts (.fieldLink RX0 45 "CashAllocator$BillBook" "count" "I") (by decide +kernel)) (fun _ h9 => h9) (congrArg (fun z => some (Value.int z)) hB) dX0_add_1 ?_
  refine lv_istore (lv' := [(6, .int (nI (n))), (0, .ref (a 1)), (1, .int (cu)), (2, .int (am)), (3, .int (rf)), (4, .int (di)), (5, .int (un))]) hx hb dX0_add_4 hl (by decide) rfl (fun ls hl => ?_)
  refine lv_aload_n hx hb dX0_add_6 rfl (lv_at hl 1 rfl) ?_
  refine va_get (D := D) (ci := 0) (v := .ref (a 2)) (C := RX0) (T := TX0) (N := 12) hx hb hts (fun w h => List.mem_cons_of_mem _ (List.mem_append_right _ h)) hown hK hP 0 rfl rfl 0 (by decide) (hts (.fieldLink RX0 9 "CashAllocator$BillBook" "customer" "[I") (by decide +kernel)) (fun _ h9 => h9) rfl dX0_add_7 ?_
  refine lv_iload hx hb dX0_add_10 (lv_at hl 0 rfl) ?_
  refine lv_iload_n hx hb dX0_add_12 rfl (lv_at hl 2 rfl) ?_
  refine zast hx hb hK hP hD hS 1 (n := 40) (f := (B 0)) rfl (n) rfl (by omega) (by decide) (wBB a cI (pt B 0 (n) (cu))) rfl dX0_add_13 (fun H locs hP hD hS => ?_)
  refine lv_aload_n hx hb dX0_add_14 rfl (lv_at hl 1 rfl) ?_
  refine va_get (D := D) (ci := 0) (v := .ref (a 3)) (C := RX0) (T := TX0) (N := 12) hx hb hts (fun w h => List.mem_cons_of_mem _ (List.mem_append_right _ h)) hown hK hP 0 rfl rfl 1 (by decide) (hts (.fieldLink RX0 15 "CashAllocator$BillBook" "amount" "[I") (by decide +kernel)) (fun _ h9 => h9) rfl dX0_add_15 ?_
  refine lv_iload hx hb dX0_add_18 (lv_at hl 0 rfl) ?_
  refine lv_iload_n hx hb dX0_add_20 rfl (lv_at hl 3 rfl) ?_
  refine zast hx hb hK hP hD hS 2 (n := 40) (f := (B 1)) rfl (n) rfl (by omega) (by decide) (wBB a cI (pt (pt B 0 (n) (cu)) 1 (n) (am))) rfl dX0_add_21 (fun H locs hP hD hS => ?_)
  refine lv_aload_n hx hb dX0_add_22 rfl (lv_at hl 1 rfl) ?_
  refine va_get (D := D) (ci := 0) (v := .ref (a 4)) (C := RX0) (T := TX0) (N := 12) hx hb hts (fun w h => List.mem_cons_of_mem _ (List.mem_append_right _ h)) hown hK hP 0 rfl rfl 2 (by decide) (hts (.fieldLink RX0 18 "CashAllocator$BillBook" "reference" "[I") (by decide +kernel)) (fun _ h9 => h9) rfl dX0_add_23 ?_
  refine lv_iload hx hb dX0_add_26 (lv_at hl 0 rfl) ?_
  refine lv_iload_n hx hb dX0_add_28 rfl (lv_at hl 4 rfl) ?_
  refine zast hx hb hK hP hD hS 3 (n := 40) (f := (B 2)) rfl (n) rfl (by omega) (by decide) (wBB a cI (pt (pt (pt B 0 (n) (cu)) 1 (n) (am)) 2 (n) (rf))) rfl dX0_add_29 (fun H locs hP hD hS => ?_)
  refine lv_aload_n hx hb dX0_add_30 rfl (lv_at hl 1 rfl) ?_
  refine va_get (D := D) (ci := 0) (v := .ref (a 5)) (C := RX0) (T := TX0) (N := 12) hx hb hts (fun w h => List.mem_cons_of_mem _ (List.mem_append_right _ h)) hown hK hP 0 rfl rfl 3 (by decide) (hts (.fieldLink RX0 21 "CashAllocator$BillBook" "discount" "[I") (by decide +kernel)) (fun _ h9 => h9) rfl dX0_add_31 ?_
  refine lv_iload hx hb dX0_add_34 (lv_at hl 0 rfl) ?_
  refine lv_iload hx hb dX0_add_36 (lv_at hl 5 rfl) ?_
  refine zast hx hb hK hP hD hS 4 (n := 40) (f := (B 3)) rfl (n) rfl (by omega) (by decide) (wBB a cI (pt (pt (pt (pt B 0 (n) (cu)) 1 (n) (am)) 2 (n) (rf)) 3 (n) (di))) rfl dX0_add_38 (fun H locs hP hD hS => ?_)
  refine lv_aload_n hx hb dX0_add_39 rfl (lv_at hl 1 rfl) ?_
  refine va_get (D := D) (ci := 0) (v := .ref (a 6)) (C := RX0) (T := TX0) (N := 12) hx hb hts (fun w h => List.mem_cons_of_mem _ (List.mem_append_right _ h)) hown hK hP 0 rfl rfl 4 (by decide) (hts (.fieldLink RX0 24 "CashAllocator$BillBook" "lastDiscountDay" "[I") (by decide +kernel)) (fun _ h9 => h9) rfl dX0_add_40 ?_
  refine lv_iload hx hb dX0_add_43 (lv_at hl 0 rfl) ?_
  refine lv_iload hx hb dX0_add_45 (lv_at hl 6 rfl) ?_
  refine zast hx hb hK hP hD hS 5 (n := 40) (f := (B 4)) rfl (n) rfl (by omega) (by decide) (wBB a cI (pt (pt (pt (pt (pt B 0 (n) (cu)) 1 (n) (am)) 2 (n) (rf)) 3 (n) (di)) 4 (n) (un))) rfl dX0_add_47 (fun H locs hP hD hS => ?_)
  refine lv_aload_n hx hb dX0_add_48 rfl (lv_at hl 1 rfl) ?_
  refine va_get (D := D) (ci := 0) (v := .ref (a 9)) (C := RX0) (T := TX0) (N := 12) hx hb hts (fun w h => List.mem_cons_of_mem _ (List.mem_append_right _ h)) hown hK hP 0 rfl rfl 7 (by decide) (hts (.fieldLink RX0 33 "CashAllocator$BillBook" "takenBy" "[I") (by decide +kernel)) (fun _ h9 => h9) rfl dX0_add_49 ?_
  refine lv_iload hx hb dX0_add_52 (lv_at hl 0 rfl) ?_
  refine lv_iconst (v := (-1)) hx hb dX0_add_54 (by decide) ?_
  refine zast hx hb hK hP hD hS 8 (n := 40) (f := (B 7)) rfl (n) rfl (by omega) (by decide) (wBB a cI (pt (pt (pt (pt (pt (pt B 0 (n) (cu)) 1 (n) (am)) 2 (n) (rf)) 3 (n) (di)) 4 (n) (un)) 7 (n) ((-1)))) rfl dX0_add_55 (fun H locs hP hD hS => ?_)
  refine lv_aload_n hx hb dX0_add_56 rfl (lv_at hl 1 rfl) ?_
  refine va_get (D := D) (ci := 0) (v := .ref (a 11)) (C := RX0) (T := TX0) (N := 12) hx hb hts (fun w h => List.mem_cons_of_mem _ (List.mem_append_right _ h)) hown hK hP 0 rfl rfl 9 (by decide) (hts (.fieldLink RX0 39 "CashAllocator$BillBook" "disputedBy" "[I") (by decide +kernel)) (fun _ h9 => h9) rfl dX0_add_57 ?_
  refine lv_iload hx hb dX0_add_60 (lv_at hl 0 rfl) ?_
  refine lv_iconst (v := (-1)) hx hb dX0_add_62 (by decide) ?_
  refine zast hx hb hK hP hD hS 10 (n := 40) (f := (B 9)) rfl (n) rfl (by omega) (by decide) (wBB a cI (pt (pt (pt (pt (pt (pt (pt B 0 (n) (cu)) 1 (n) (am)) 2 (n) (rf)) 3 (n) (di)) 4 (n) (un)) 7 (n) ((-1))) 9 (n) ((-1)))) rfl dX0_add_63 (fun H locs hP hD hS => ?_)
  refine lv_aload_n hx hb dX0_add_64 rfl (lv_at hl 1 rfl) ?_
  refine lv_dup hx hb dX0_add_65 rfl ?_
  refine va_get (D := D) (ci := 0) (v := .int (nI (n))) (C := RX0) (T := TX0) (N := 12) hx hb hts (fun w h => List.mem_cons_of_mem _ (List.mem_append_right _ h)) hown hK hP 0 rfl rfl 11 (by decide) (hts (.fieldLink RX0 45 "CashAllocator$BillBook" "count" "I") (by decide +kernel)) (fun _ h9 => h9) (congrArg (fun z => some (Value.int z)) hB) dX0_add_66 ?_
  refine lv_iconst (v := 1) hx hb dX0_add_69 (by decide) ?_
  refine lv_iadd hx hb dX0_add_70 ?_
  rw [nI_1]
  refine va_put (D := D) (ci := 0) (v := .int (nI (n + 1))) (ty := .int) (C := RX0) (T := TX0) (N := 12) hx hb hts (fun w h => List.mem_cons_of_mem _ (List.mem_append_right _ h)) tyX0 tyX0_ok nmX0 hown hK hP hD hS 0 rfl rfl 11 (by decide) (hts (.fieldLink RX0 45 "CashAllocator$BillBook" "count" "I") (by decide +kernel)) (fun _ h9 => h9) rfl (by decide +kernel) rfl rfl (Nat.le_of_ble_eq_true rfl) dX0_add_71 (fun H locs hP hD hS => ?_)
  have hP : va_P D vwCl (wBB a cI (pt (pt (pt (pt (pt (pt (pt (pt B 0 (n) (cu)) 1 (n) (am)) 2 (n) (rf)) 3 (n) (di)) 4 (n) (un)) 7 (n) ((-1))) 9 (n) ((-1))) 11 (0) (nI (n + 1)))) H := hP
  have hD : va_D A (wBB a cI (pt (pt (pt (pt (pt (pt (pt (pt B 0 (n) (cu)) 1 (n) (am)) 2 (n) (rf)) 3 (n) (di)) 4 (n) (un)) 7 (n) ((-1))) 9 (n) ((-1))) 11 (0) (nI (n + 1)))) := hD
  refine lv_iload hx hb dX0_add_74 (lv_at hl 0 rfl) ?_
  exact W.iret (v := nI (n)) hx hb hr (fun t ht hW => ⟨⟨nI (n), (pt (pt (pt (pt (pt (pt (pt (pt B 0 (n) (cu)) 1 (n) (am)) 2 (n) (rf)) 3 (n) (di)) 4 (n) (un)) 7 (n) ((-1))) 9 (n) ((-1))) 11 (0) (nI (n + 1))), rfl, ⟨rfl, rfl⟩, by rw [ht]; exact hP, va_K.moved hW.alike hK, hD⟩, hS.F ht⟩) hS.2.2 dX0_add_76
end
section
theorem dX2_init_0 : decode cX2_init 0 = .ok (.aload_n 0, 1) := by decide +kernel
theorem dX2_init_1 : decode cX2_init 1 = .ok (.invokespecial 3, 3) := by decide +kernel
theorem dX2_init_4 : decode cX2_init 4 = .ok (.aload_n 0, 1) := by decide +kernel
theorem dX2_init_5 : decode cX2_init 5 = .ok (.bipush 30, 2) := by decide +kernel
theorem dX2_init_7 : decode cX2_init 7 = .ok (.newarray .int, 2) := by decide +kernel
theorem dX2_init_9 : decode cX2_init 9 = .ok (.putfield 9, 3) := by decide +kernel
theorem dX2_init_12 : decode cX2_init 12 = .ok (.aload_n 0, 1) := by decide +kernel
theorem dX2_init_13 : decode cX2_init 13 = .ok (.bipush 30, 2) := by decide +kernel
theorem dX2_init_15 : decode cX2_init 15 = .ok (.newarray .int, 2) := by decide +kernel
theorem dX2_init_17 : decode cX2_init 17 = .ok (.putfield 15, 3) := by decide +kernel
theorem dX2_init_20 : decode cX2_init 20 = .ok (.aload_n 0, 1) := by decide +kernel
theorem dX2_init_21 : decode cX2_init 21 = .ok (.bipush 30, 2) := by decide +kernel
theorem dX2_init_23 : decode cX2_init 23 = .ok (.newarray .int, 2) := by decide +kernel
theorem dX2_init_25 : decode cX2_init 25 = .ok (.putfield 18, 3) := by decide +kernel
theorem dX2_init_28 : decode cX2_init 28 = .ok (.aload_n 0, 1) := by decide +kernel
theorem dX2_init_29 : decode cX2_init 29 = .ok (.bipush 30, 2) := by decide +kernel
theorem dX2_init_31 : decode cX2_init 31 = .ok (.newarray .int, 2) := by decide +kernel
theorem dX2_init_33 : decode cX2_init 33 = .ok (.putfield 21, 3) := by decide +kernel
theorem dX2_init_36 : decode cX2_init 36 = .ok (.aload_n 0, 1) := by decide +kernel
theorem dX2_init_37 : decode cX2_init 37 = .ok (.bipush 30, 2) := by decide +kernel
theorem dX2_init_39 : decode cX2_init 39 = .ok (.newarray .int, 2) := by decide +kernel
theorem dX2_init_41 : decode cX2_init 41 = .ok (.putfield 24, 3) := by decide +kernel
theorem dX2_init_44 : decode cX2_init 44 = .ok (.aload_n 0, 1) := by decide +kernel
theorem dX2_init_45 : decode cX2_init 45 = .ok (.bipush 30, 2) := by decide +kernel
theorem dX2_init_47 : decode cX2_init 47 = .ok (.newarray .boolean, 2) := by decide +kernel
theorem dX2_init_49 : decode cX2_init 49 = .ok (.putfield 27, 3) := by decide +kernel
theorem dX2_init_52 : decode cX2_init 52 = .ok (.aload_n 0, 1) := by decide +kernel
theorem dX2_init_53 : decode cX2_init 53 = .ok (.sipush 1200, 3) := by decide +kernel
theorem dX2_init_56 : decode cX2_init 56 = .ok (.newarray .int, 2) := by decide +kernel
theorem dX2_init_58 : decode cX2_init 58 = .ok (.putfield 31, 3) := by decide +kernel
theorem dX2_init_61 : decode cX2_init 61 = .ok (.aload_n 0, 1) := by decide +kernel
theorem dX2_init_62 : decode cX2_init 62 = .ok (.sipush 1200, 3) := by decide +kernel
theorem dX2_init_65 : decode cX2_init 65 = .ok (.newarray .boolean, 2) := by decide +kernel
theorem dX2_init_67 : decode cX2_init 67 = .ok (.putfield 34, 3) := by decide +kernel
theorem dX2_init_70 : decode cX2_init 70 = .ok (.return_, 1) := by decide +kernel
theorem dX2_add_0 : decode cX2_add 0 = .ok (.aload_n 0, 1) := by decide +kernel
theorem dX2_add_1 : decode cX2_add 1 = .ok (.getfield 37, 3) := by decide +kernel
theorem dX2_add_4 : decode cX2_add 4 = .ok (.istore_n 3, 1) := by decide +kernel
theorem dX2_add_5 : decode cX2_add 5 = .ok (.aload_n 0, 1) := by decide +kernel
theorem dX2_add_6 : decode cX2_add 6 = .ok (.getfield 9, 3) := by decide +kernel
theorem dX2_add_9 : decode cX2_add 9 = .ok (.iload_n 3, 1) := by decide +kernel
theorem dX2_add_10 : decode cX2_add 10 = .ok (.iload_n 1, 1) := by decide +kernel
theorem dX2_add_11 : decode cX2_add 11 = .ok (.iastore, 1) := by decide +kernel
theorem dX2_add_12 : decode cX2_add 12 = .ok (.aload_n 0, 1) := by decide +kernel
theorem dX2_add_13 : decode cX2_add 13 = .ok (.getfield 15, 3) := by decide +kernel
theorem dX2_add_16 : decode cX2_add 16 = .ok (.iload_n 3, 1) := by decide +kernel
theorem dX2_add_17 : decode cX2_add 17 = .ok (.iload_n 2, 1) := by decide +kernel
theorem dX2_add_18 : decode cX2_add 18 = .ok (.iastore, 1) := by decide +kernel
theorem dX2_add_19 : decode cX2_add 19 = .ok (.aload_n 0, 1) := by decide +kernel
theorem dX2_add_20 : decode cX2_add 20 = .ok (.getfield 21, 3) := by decide +kernel
theorem dX2_add_23 : decode cX2_add 23 = .ok (.iload_n 3, 1) := by decide +kernel
theorem dX2_add_24 : decode cX2_add 24 = .ok (.iload_n 2, 1) := by decide +kernel
theorem dX2_add_25 : decode cX2_add 25 = .ok (.iastore, 1) := by decide +kernel
theorem dX2_add_26 : decode cX2_add 26 = .ok (.aload_n 0, 1) := by decide +kernel
theorem dX2_add_27 : decode cX2_add 27 = .ok (.dup, 1) := by decide +kernel
theorem dX2_add_28 : decode cX2_add 28 = .ok (.getfield 37, 3) := by decide +kernel
theorem dX2_add_31 : decode cX2_add 31 = .ok (.iconst 1, 1) := by decide +kernel
theorem dX2_add_32 : decode cX2_add 32 = .ok (.iadd, 1) := by decide +kernel
theorem dX2_add_33 : decode cX2_add 33 = .ok (.putfield 37, 3) := by decide +kernel
theorem dX2_add_36 : decode cX2_add 36 = .ok (.iload_n 3, 1) := by decide +kernel
theorem dX2_add_37 : decode cX2_add 37 = .ok (.ireturn, 1) := by decide +kernel
theorem dX2_cell_0 : decode cX2_cell 0 = .ok (.iload_n 0, 1) := by decide +kernel
theorem dX2_cell_1 : decode cX2_cell 1 = .ok (.bipush 40, 2) := by decide +kernel
theorem dX2_cell_3 : decode cX2_cell 3 = .ok (.imul, 1) := by decide +kernel
theorem dX2_cell_4 : decode cX2_cell 4 = .ok (.iload_n 1, 1) := by decide +kernel
theorem dX2_cell_5 : decode cX2_cell 5 = .ok (.iadd, 1) := by decide +kernel
theorem dX2_cell_6 : decode cX2_cell 6 = .ok (.ireturn, 1) := by decide +kernel
theorem dX2_hasPaid_0 : decode cX2_hasPaid 0 = .ok (.aload_n 0, 1) := by decide +kernel
theorem dX2_hasPaid_1 : decode cX2_hasPaid 1 = .ok (.getfield 34, 3) := by decide +kernel
theorem dX2_hasPaid_4 : decode cX2_hasPaid 4 = .ok (.iload_n 1, 1) := by decide +kernel
theorem dX2_hasPaid_5 : decode cX2_hasPaid 5 = .ok (.iload_n 2, 1) := by decide +kernel
theorem dX2_hasPaid_6 : decode cX2_hasPaid 6 = .ok (.invokestatic 41, 3) := by decide +kernel
theorem dX2_hasPaid_9 : decode cX2_hasPaid 9 = .ok (.baload, 1) := by decide +kernel
theorem dX2_hasPaid_10 : decode cX2_hasPaid 10 = .ok (.ireturn, 1) := by decide +kernel
theorem dX2_paidOf_0 : decode cX2_paidOf 0 = .ok (.aload_n 0, 1) := by decide +kernel
theorem dX2_paidOf_1 : decode cX2_paidOf 1 = .ok (.getfield 31, 3) := by decide +kernel
theorem dX2_paidOf_4 : decode cX2_paidOf 4 = .ok (.iload_n 1, 1) := by decide +kernel
theorem dX2_paidOf_5 : decode cX2_paidOf 5 = .ok (.iload_n 2, 1) := by decide +kernel
theorem dX2_paidOf_6 : decode cX2_paidOf 6 = .ok (.invokestatic 41, 3) := by decide +kernel
theorem dX2_paidOf_9 : decode cX2_paidOf 9 = .ok (.iaload, 1) := by decide +kernel
theorem dX2_paidOf_10 : decode cX2_paidOf 10 = .ok (.ireturn, 1) := by decide +kernel
theorem dX2_addPayment_0 : decode cX2_addPayment 0 = .ok (.aload_n 0, 1) := by decide +kernel
theorem dX2_addPayment_1 : decode cX2_addPayment 1 = .ok (.getfield 31, 3) := by decide +kernel
theorem dX2_addPayment_4 : decode cX2_addPayment 4 = .ok (.iload_n 1, 1) := by decide +kernel
theorem dX2_addPayment_5 : decode cX2_addPayment 5 = .ok (.iload_n 2, 1) := by decide +kernel
theorem dX2_addPayment_6 : decode cX2_addPayment 6 = .ok (.invokestatic 41, 3) := by decide +kernel
theorem dX2_addPayment_9 : decode cX2_addPayment 9 = .ok (.dup2, 1) := by decide +kernel
theorem dX2_addPayment_10 : decode cX2_addPayment 10 = .ok (.iaload, 1) := by decide +kernel
theorem dX2_addPayment_11 : decode cX2_addPayment 11 = .ok (.iload_n 3, 1) := by decide +kernel
theorem dX2_addPayment_12 : decode cX2_addPayment 12 = .ok (.iadd, 1) := by decide +kernel
theorem dX2_addPayment_13 : decode cX2_addPayment 13 = .ok (.iastore, 1) := by decide +kernel
theorem dX2_addPayment_14 : decode cX2_addPayment 14 = .ok (.aload_n 0, 1) := by decide +kernel
theorem dX2_addPayment_15 : decode cX2_addPayment 15 = .ok (.getfield 34, 3) := by decide +kernel
theorem dX2_addPayment_18 : decode cX2_addPayment 18 = .ok (.iload_n 1, 1) := by decide +kernel
theorem dX2_addPayment_19 : decode cX2_addPayment 19 = .ok (.iload_n 2, 1) := by decide +kernel
theorem dX2_addPayment_20 : decode cX2_addPayment 20 = .ok (.invokestatic 41, 3) := by decide +kernel
theorem dX2_addPayment_23 : decode cX2_addPayment 23 = .ok (.iconst 1, 1) := by decide +kernel
theorem dX2_addPayment_24 : decode cX2_addPayment 24 = .ok (.bastore, 1) := by decide +kernel
theorem dX2_addPayment_25 : decode cX2_addPayment 25 = .ok (.aload_n 0, 1) := by decide +kernel
theorem dX2_addPayment_26 : decode cX2_addPayment 26 = .ok (.getfield 18, 3) := by decide +kernel
theorem dX2_addPayment_29 : decode cX2_addPayment 29 = .ok (.iload_n 1, 1) := by decide +kernel
theorem dX2_addPayment_30 : decode cX2_addPayment 30 = .ok (.dup2, 1) := by decide +kernel
theorem dX2_addPayment_31 : decode cX2_addPayment 31 = .ok (.iaload, 1) := by decide +kernel
theorem dX2_addPayment_32 : decode cX2_addPayment 32 = .ok (.iload_n 3, 1) := by decide +kernel
theorem dX2_addPayment_33 : decode cX2_addPayment 33 = .ok (.iadd, 1) := by decide +kernel
theorem dX2_addPayment_34 : decode cX2_addPayment 34 = .ok (.iastore, 1) := by decide +kernel
theorem dX2_addPayment_35 : decode cX2_addPayment 35 = .ok (.aload_n 0, 1) := by decide +kernel
theorem dX2_addPayment_36 : decode cX2_addPayment 36 = .ok (.getfield 21, 3) := by decide +kernel
theorem dX2_addPayment_39 : decode cX2_addPayment 39 = .ok (.iload_n 1, 1) := by decide +kernel
theorem dX2_addPayment_40 : decode cX2_addPayment 40 = .ok (.dup2, 1) := by decide +kernel
theorem dX2_addPayment_41 : decode cX2_addPayment 41 = .ok (.iaload, 1) := by decide +kernel
theorem dX2_addPayment_42 : decode cX2_addPayment 42 = .ok (.iload_n 3, 1) := by decide +kernel
theorem dX2_addPayment_43 : decode cX2_addPayment 43 = .ok (.isub, 1) := by decide +kernel
theorem dX2_addPayment_44 : decode cX2_addPayment 44 = .ok (.iastore, 1) := by decide +kernel
theorem dX2_addPayment_45 : decode cX2_addPayment 45 = .ok (.return_, 1) := by decide +kernel
theorem dX2_dropPayment_0 : decode cX2_dropPayment 0 = .ok (.aload_n 0, 1) := by decide +kernel
theorem dX2_dropPayment_1 : decode cX2_dropPayment 1 = .ok (.getfield 18, 3) := by decide +kernel
theorem dX2_dropPayment_4 : decode cX2_dropPayment 4 = .ok (.iload_n 1, 1) := by decide +kernel
theorem dX2_dropPayment_5 : decode cX2_dropPayment 5 = .ok (.dup2, 1) := by decide +kernel
theorem dX2_dropPayment_6 : decode cX2_dropPayment 6 = .ok (.iaload, 1) := by decide +kernel
theorem dX2_dropPayment_7 : decode cX2_dropPayment 7 = .ok (.aload_n 0, 1) := by decide +kernel
theorem dX2_dropPayment_8 : decode cX2_dropPayment 8 = .ok (.getfield 31, 3) := by decide +kernel
theorem dX2_dropPayment_11 : decode cX2_dropPayment 11 = .ok (.iload_n 1, 1) := by decide +kernel
theorem dX2_dropPayment_12 : decode cX2_dropPayment 12 = .ok (.iload_n 2, 1) := by decide +kernel
theorem dX2_dropPayment_13 : decode cX2_dropPayment 13 = .ok (.invokestatic 41, 3) := by decide +kernel
theorem dX2_dropPayment_16 : decode cX2_dropPayment 16 = .ok (.iaload, 1) := by decide +kernel
theorem dX2_dropPayment_17 : decode cX2_dropPayment 17 = .ok (.isub, 1) := by decide +kernel
theorem dX2_dropPayment_18 : decode cX2_dropPayment 18 = .ok (.iastore, 1) := by decide +kernel
theorem dX2_dropPayment_19 : decode cX2_dropPayment 19 = .ok (.aload_n 0, 1) := by decide +kernel
theorem dX2_dropPayment_20 : decode cX2_dropPayment 20 = .ok (.getfield 31, 3) := by decide +kernel
theorem dX2_dropPayment_23 : decode cX2_dropPayment 23 = .ok (.iload_n 1, 1) := by decide +kernel
theorem dX2_dropPayment_24 : decode cX2_dropPayment 24 = .ok (.iload_n 2, 1) := by decide +kernel
theorem dX2_dropPayment_25 : decode cX2_dropPayment 25 = .ok (.invokestatic 41, 3) := by decide +kernel
theorem dX2_dropPayment_28 : decode cX2_dropPayment 28 = .ok (.iconst 0, 1) := by decide +kernel
theorem dX2_dropPayment_29 : decode cX2_dropPayment 29 = .ok (.iastore, 1) := by decide +kernel
theorem dX2_dropPayment_30 : decode cX2_dropPayment 30 = .ok (.aload_n 0, 1) := by decide +kernel
theorem dX2_dropPayment_31 : decode cX2_dropPayment 31 = .ok (.getfield 34, 3) := by decide +kernel
theorem dX2_dropPayment_34 : decode cX2_dropPayment 34 = .ok (.iload_n 1, 1) := by decide +kernel
theorem dX2_dropPayment_35 : decode cX2_dropPayment 35 = .ok (.iload_n 2, 1) := by decide +kernel
theorem dX2_dropPayment_36 : decode cX2_dropPayment 36 = .ok (.invokestatic 41, 3) := by decide +kernel
theorem dX2_dropPayment_39 : decode cX2_dropPayment 39 = .ok (.iconst 0, 1) := by decide +kernel
theorem dX2_dropPayment_40 : decode cX2_dropPayment 40 = .ok (.bastore, 1) := by decide +kernel
theorem dX2_dropPayment_41 : decode cX2_dropPayment 41 = .ok (.return_, 1) := by decide +kernel
theorem dX2_markBounced_0 : decode cX2_markBounced 0 = .ok (.aload_n 0, 1) := by decide +kernel
theorem dX2_markBounced_1 : decode cX2_markBounced 1 = .ok (.getfield 21, 3) := by decide +kernel
theorem dX2_markBounced_4 : decode cX2_markBounced 4 = .ok (.iload_n 1, 1) := by decide +kernel
theorem dX2_markBounced_5 : decode cX2_markBounced 5 = .ok (.iconst 0, 1) := by decide +kernel
theorem dX2_markBounced_6 : decode cX2_markBounced 6 = .ok (.iastore, 1) := by decide +kernel
theorem dX2_markBounced_7 : decode cX2_markBounced 7 = .ok (.aload_n 0, 1) := by decide +kernel
theorem dX2_markBounced_8 : decode cX2_markBounced 8 = .ok (.getfield 27, 3) := by decide +kernel
theorem dX2_markBounced_11 : decode cX2_markBounced 11 = .ok (.iload_n 1, 1) := by decide +kernel
theorem dX2_markBounced_12 : decode cX2_markBounced 12 = .ok (.iconst 1, 1) := by decide +kernel
theorem dX2_markBounced_13 : decode cX2_markBounced 13 = .ok (.bastore, 1) := by decide +kernel
theorem dX2_markBounced_14 : decode cX2_markBounced 14 = .ok (.return_, 1) := by decide +kernel
theorem dX2_payBackRest_0 : decode cX2_payBackRest 0 = .ok (.aload_n 0, 1) := by decide +kernel
theorem dX2_payBackRest_1 : decode cX2_payBackRest 1 = .ok (.getfield 21, 3) := by decide +kernel
theorem dX2_payBackRest_4 : decode cX2_payBackRest 4 = .ok (.iload_n 1, 1) := by decide +kernel
theorem dX2_payBackRest_5 : decode cX2_payBackRest 5 = .ok (.iaload, 1) := by decide +kernel
theorem dX2_payBackRest_6 : decode cX2_payBackRest 6 = .ok (.istore_n 2, 1) := by decide +kernel
theorem dX2_payBackRest_7 : decode cX2_payBackRest 7 = .ok (.aload_n 0, 1) := by decide +kernel
theorem dX2_payBackRest_8 : decode cX2_payBackRest 8 = .ok (.getfield 21, 3) := by decide +kernel
theorem dX2_payBackRest_11 : decode cX2_payBackRest 11 = .ok (.iload_n 1, 1) := by decide +kernel
theorem dX2_payBackRest_12 : decode cX2_payBackRest 12 = .ok (.iconst 0, 1) := by decide +kernel
theorem dX2_payBackRest_13 : decode cX2_payBackRest 13 = .ok (.iastore, 1) := by decide +kernel
theorem dX2_payBackRest_14 : decode cX2_payBackRest 14 = .ok (.aload_n 0, 1) := by decide +kernel
theorem dX2_payBackRest_15 : decode cX2_payBackRest 15 = .ok (.getfield 24, 3) := by decide +kernel
theorem dX2_payBackRest_18 : decode cX2_payBackRest 18 = .ok (.iload_n 1, 1) := by decide +kernel
theorem dX2_payBackRest_19 : decode cX2_payBackRest 19 = .ok (.dup2, 1) := by decide +kernel
theorem dX2_payBackRest_20 : decode cX2_payBackRest 20 = .ok (.iaload, 1) := by decide +kernel
theorem dX2_payBackRest_21 : decode cX2_payBackRest 21 = .ok (.iload_n 2, 1) := by decide +kernel
theorem dX2_payBackRest_22 : decode cX2_payBackRest 22 = .ok (.iadd, 1) := by decide +kernel
theorem dX2_payBackRest_23 : decode cX2_payBackRest 23 = .ok (.iastore, 1) := by decide +kernel
theorem dX2_payBackRest_24 : decode cX2_payBackRest 24 = .ok (.iload_n 2, 1) := by decide +kernel
theorem dX2_payBackRest_25 : decode cX2_payBackRest 25 = .ok (.ireturn, 1) := by decide +kernel
theorem dX2_totalOf_0 : decode cX2_totalOf 0 = .ok (.iconst 0, 1) := by decide +kernel
theorem dX2_totalOf_1 : decode cX2_totalOf 1 = .ok (.istore_n 2, 1) := by decide +kernel
theorem dX2_totalOf_2 : decode cX2_totalOf 2 = .ok (.iconst 0, 1) := by decide +kernel
theorem dX2_totalOf_3 : decode cX2_totalOf 3 = .ok (.istore_n 3, 1) := by decide +kernel
theorem dX2_totalOf_4 : decode cX2_totalOf 4 = .ok (.iload_n 3, 1) := by decide +kernel
theorem dX2_totalOf_5 : decode cX2_totalOf 5 = .ok (.aload_n 0, 1) := by decide +kernel
theorem dX2_totalOf_6 : decode cX2_totalOf 6 = .ok (.getfield 37, 3) := by decide +kernel
theorem dX2_totalOf_9 : decode cX2_totalOf 9 = .ok (.if_icmp .ge 21, 3) := by decide +kernel
theorem dX2_totalOf_12 : decode cX2_totalOf 12 = .ok (.iload_n 3, 1) := by decide +kernel
theorem dX2_totalOf_13 : decode cX2_totalOf 13 = .ok (.aload_n 1, 1) := by decide +kernel
theorem dX2_totalOf_14 : decode cX2_totalOf 14 = .ok (.arraylength, 1) := by decide +kernel
theorem dX2_totalOf_15 : decode cX2_totalOf 15 = .ok (.if_icmp .ge 15, 3) := by decide +kernel
theorem dX2_totalOf_18 : decode cX2_totalOf 18 = .ok (.iload_n 2, 1) := by decide +kernel
theorem dX2_totalOf_19 : decode cX2_totalOf 19 = .ok (.aload_n 1, 1) := by decide +kernel
theorem dX2_totalOf_20 : decode cX2_totalOf 20 = .ok (.iload_n 3, 1) := by decide +kernel
theorem dX2_totalOf_21 : decode cX2_totalOf 21 = .ok (.iaload, 1) := by decide +kernel
theorem dX2_totalOf_22 : decode cX2_totalOf 22 = .ok (.iadd, 1) := by decide +kernel
theorem dX2_totalOf_23 : decode cX2_totalOf 23 = .ok (.istore_n 2, 1) := by decide +kernel
theorem dX2_totalOf_24 : decode cX2_totalOf 24 = .ok (.iinc 3 1, 3) := by decide +kernel
theorem dX2_totalOf_27 : decode cX2_totalOf 27 = .ok (.goto (-23), 3) := by decide +kernel
theorem dX2_totalOf_30 : decode cX2_totalOf 30 = .ok (.iload_n 2, 1) := by decide +kernel
theorem dX2_totalOf_31 : decode cX2_totalOf 31 = .ok (.ireturn, 1) := by decide +kernel
theorem dX2_bouncedTotal_0 : decode cX2_bouncedTotal 0 = .ok (.iconst 0, 1) := by decide +kernel
theorem dX2_bouncedTotal_1 : decode cX2_bouncedTotal 1 = .ok (.istore_n 1, 1) := by decide +kernel
theorem dX2_bouncedTotal_2 : decode cX2_bouncedTotal 2 = .ok (.iconst 0, 1) := by decide +kernel
theorem dX2_bouncedTotal_3 : decode cX2_bouncedTotal 3 = .ok (.istore_n 2, 1) := by decide +kernel
theorem dX2_bouncedTotal_4 : decode cX2_bouncedTotal 4 = .ok (.iload_n 2, 1) := by decide +kernel
theorem dX2_bouncedTotal_5 : decode cX2_bouncedTotal 5 = .ok (.aload_n 0, 1) := by decide +kernel
theorem dX2_bouncedTotal_6 : decode cX2_bouncedTotal 6 = .ok (.getfield 37, 3) := by decide +kernel
theorem dX2_bouncedTotal_9 : decode cX2_bouncedTotal 9 = .ok (.if_icmp .ge 27, 3) := by decide +kernel
theorem dX2_bouncedTotal_12 : decode cX2_bouncedTotal 12 = .ok (.aload_n 0, 1) := by decide +kernel
theorem dX2_bouncedTotal_13 : decode cX2_bouncedTotal 13 = .ok (.getfield 27, 3) := by decide +kernel
theorem dX2_bouncedTotal_16 : decode cX2_bouncedTotal 16 = .ok (.iload_n 2, 1) := by decide +kernel
theorem dX2_bouncedTotal_17 : decode cX2_bouncedTotal 17 = .ok (.baload, 1) := by decide +kernel
theorem dX2_bouncedTotal_18 : decode cX2_bouncedTotal 18 = .ok (.ifCond .eq 12, 3) := by decide +kernel
theorem dX2_bouncedTotal_21 : decode cX2_bouncedTotal 21 = .ok (.iload_n 1, 1) := by decide +kernel
theorem dX2_bouncedTotal_22 : decode cX2_bouncedTotal 22 = .ok (.aload_n 0, 1) := by decide +kernel
theorem dX2_bouncedTotal_23 : decode cX2_bouncedTotal 23 = .ok (.getfield 15, 3) := by decide +kernel
theorem dX2_bouncedTotal_26 : decode cX2_bouncedTotal 26 = .ok (.iload_n 2, 1) := by decide +kernel
theorem dX2_bouncedTotal_27 : decode cX2_bouncedTotal 27 = .ok (.iaload, 1) := by decide +kernel
theorem dX2_bouncedTotal_28 : decode cX2_bouncedTotal 28 = .ok (.iadd, 1) := by decide +kernel
theorem dX2_bouncedTotal_29 : decode cX2_bouncedTotal 29 = .ok (.istore_n 1, 1) := by decide +kernel
theorem dX2_bouncedTotal_30 : decode cX2_bouncedTotal 30 = .ok (.iinc 2 1, 3) := by decide +kernel
theorem dX2_bouncedTotal_33 : decode cX2_bouncedTotal 33 = .ok (.goto (-29), 3) := by decide +kernel
theorem dX2_bouncedTotal_36 : decode cX2_bouncedTotal 36 = .ok (.iload_n 1, 1) := by decide +kernel
theorem dX2_bouncedTotal_37 : decode cX2_bouncedTotal 37 = .ok (.ireturn, 1) := by decide +kernel

def addR (R : Nat → Nat → Int32) (n : Nat) (cu am : Int32) : Nat → Nat → Int32 := pt (pt (pt (pt R 0 n cu) 1 n am) 3 n am) 8 0 (nI (n + 1))
def addP (R : Nat → Nat → Int32) (rc b : Nat) (sm : Int32) : Nat → Nat → Int32 := pt (pt (pt (pt R 6 (40 * rc + b) (R 6 (40 * rc + b) + sm)) 7 (40 * rc + b) 1) 2 rc (R 2 rc + sm)) 3 rc (R 3 rc - sm)
def drpP (R : Nat → Nat → Int32) (rc b : Nat) : Nat → Nat → Int32 := pt (pt (pt R 2 rc (R 2 rc - R 6 (40 * rc + b))) 6 (40 * rc + b) 0) 7 (40 * rc + b) 0
def mkB (R : Nat → Nat → Int32) (rc : Nat) : Nat → Nat → Int32 := pt (pt R 3 rc 0) 5 rc 1
def pbR (R : Nat → Nat → Int32) (rc : Nat) : Nat → Nat → Int32 := pt (pt R 3 rc 0) 4 rc (R 4 rc + R 3 rc)
def bsm (R : Nat → Nat → Int32) : Nat → Int32
  | 0 => 0
  | k + 1 => if R 5 k = 0 then bsm R k else bsm R k + R 1 k
set_option maxHeartbeats 4000000 in
set_option maxRecDepth 100000 in
theorem c_X2_add (l : Launch) (D : va_G) (cI cZ : ClassId) (a : Nat → Nat) (sz : Nat) (R : Nat → Nat → Int32) (n : Nat) (cu : Int32) (am : Int32) (hR : R 8 0 = nI n) (hn : n < 30) : Met l yX2_add wsX2_add ({ frames := 0, cells := 0, slots := 0, locals := 0 } : Room) (va_Pc [.ref (a 13), .int (cu), .int (am)] (PreW D cI cZ (wRB a cI cZ R) sz)) (va_Qi (fun (r : Int32) (u : Nat → Nat → Int32) => r = nI n ∧ u = addR R n cu am) (fun (u : Nat → Nat → Int32) => PostW D cI cZ (va_A (wRB a cI cZ R) sz) (wRB a cI cZ u)) (va_A (wRB a cI cZ R) sz)) 0 0 (va_A (wRB a cI cZ R) sz) := by
  refine Met.ofW (cc := cX2_add) (maxL := 4) (ret := (some .int)) (by decide) rfl ?_
  intro p e s m args below meth c s₁ BB hml hv
  obtain ⟨rfl, hsz, hP, hK, hD0⟩ := hv
  have hx := BB.exec
  have hb := BB.bytes
  have hr := BB.returns
  have hts := atoms_spec (ws := wsX2_add) BB.pre
  have hown : s.vm.findClass RX2 = some m.cls := findClass_of_methodNamed BB.named
  have hlocks := BB.notSynchronized
  clear BB
  subst hsz
  have hD := hD0.self (sz := s.heap.size)
  clear hD0
  generalize hAe : va_A (wRB a cI cZ R) s.heap.size = A at hD ⊢
  have hA : ∀ q : Nat, s.heap.size ≤ q → A q := fun q h => by rw [← hAe]; exact Or.inr h
  clear hAe
  have hS : va_S A s.heap s.heap [] := va_S.rf
  have hl := lv_entry ([.ref (a 13), .int (cu), .int (am)]) (n := 4) (Nat.le_of_ble_eq_true rfl)
  rw [lg_entry_eq]
  generalize (lg_sl ([.ref (a 13), .int (cu), .int (am)]) ++ List.replicate (4 - (lg_sl ([.ref (a 13), .int (cu), .int (am)])).length) Slot.unset).toArray = ls at hl ⊢
  have hl : lv_has ls 4 [(0, .ref (a 13)), (1, .int (cu)), (2, .int (am))] := hl
  generalize hHe : s.heap = H at hP
  have hS : va_S A s.heap H [] := by rw [← hHe]; exact va_S.rf
  clear hHe
  generalize hLe : ([] : List Loc) = locs at hS ⊢
  clear hLe
  refine lv_aload_n hx hb dX2_add_0 rfl (lv_at hl 0 rfl) ?_
  refine va_get (D := D) (ci := 2) (v := .int (nI (n))) (C := RX2) (T := TX2) (N := 9) hx hb hts (fun w h => List.mem_cons_of_mem _ (List.mem_append_right _ h)) hown hK hP 0 rfl rfl 8 (by decide) (hts (.fieldLink RX2 37 "CashAllocator$ReceiptBook" "count" "I") (by decide +kernel)) (fun _ h9 => h9) (congrArg (fun z => some (Value.int z)) hR) dX2_add_1 ?_
  refine lv_istore_n (lv' := [(3, .int (nI (n))), (0, .ref (a 13)), (1, .int (cu)), (2, .int (am))]) hx hb dX2_add_4 rfl hl (by decide) rfl (fun ls hl => ?_)
  refine lv_aload_n hx hb dX2_add_5 rfl (lv_at hl 1 rfl) ?_
  refine va_get (D := D) (ci := 2) (v := .ref (a 14)) (C := RX2) (T := TX2) (N := 9) hx hb hts (fun w h => List.mem_cons_of_mem _ (List.mem_append_right _ h)) hown hK hP 0 rfl rfl 0 (by decide) (hts (.fieldLink RX2 9 "CashAllocator$ReceiptBook" "customer" "[I") (by decide +kernel)) (fun _ h9 => h9) rfl dX2_add_6 ?_
  refine lv_iload_n hx hb dX2_add_9 rfl (lv_at hl 0 rfl) ?_
  refine lv_iload_n hx hb dX2_add_10 rfl (lv_at hl 2 rfl) ?_
  refine zast hx hb hK hP hD hS 1 (n := 30) (f := (R 0)) rfl (n) rfl (by omega) (by decide) (wRB a cI cZ (pt R 0 (n) (cu))) rfl dX2_add_11 (fun H locs hP hD hS => ?_)
  refine lv_aload_n hx hb dX2_add_12 rfl (lv_at hl 1 rfl) ?_
  refine va_get (D := D) (ci := 2) (v := .ref (a 15)) (C := RX2) (T := TX2) (N := 9) hx hb hts (fun w h => List.mem_cons_of_mem _ (List.mem_append_right _ h)) hown hK hP 0 rfl rfl 1 (by decide) (hts (.fieldLink RX2 15 "CashAllocator$ReceiptBook" "amount" "[I") (by decide +kernel)) (fun _ h9 => h9) rfl dX2_add_13 ?_
  refine lv_iload_n hx hb dX2_add_16 rfl (lv_at hl 0 rfl) ?_
  refine lv_iload_n hx hb dX2_add_17 rfl (lv_at hl 3 rfl) ?_
  refine zast hx hb hK hP hD hS 2 (n := 30) (f := (R 1)) rfl (n) rfl (by omega) (by decide) (wRB a cI cZ (pt (pt R 0 (n) (cu)) 1 (n) (am))) rfl dX2_add_18 (fun H locs hP hD hS => ?_)
  refine lv_aload_n hx hb dX2_add_19 rfl (lv_at hl 1 rfl) ?_
  refine va_get (D := D) (ci := 2) (v := .ref (a 17)) (C := RX2) (T := TX2) (N := 9) hx hb hts (fun w h => List.mem_cons_of_mem _ (List.mem_append_right _ h)) hown hK hP 0 rfl rfl 3 (by decide) (hts (.fieldLink RX2 21 "CashAllocator$ReceiptBook" "unapplied" "[I") (by decide +kernel)) (fun _ h9 => h9) rfl dX2_add_20 ?_
  refine lv_iload_n hx hb dX2_add_23 rfl (lv_at hl 0 rfl) ?_
  refine lv_iload_n hx hb dX2_add_24 rfl (lv_at hl 3 rfl) ?_
  refine zast hx hb hK hP hD hS 4 (n := 30) (f := (R 3)) rfl (n) rfl (by omega) (by decide) (wRB a cI cZ (pt (pt (pt R 0 (n) (cu)) 1 (n) (am)) 3 (n) (am))) rfl dX2_add_25 (fun H locs hP hD hS => ?_)
  refine lv_aload_n hx hb dX2_add_26 rfl (lv_at hl 1 rfl) ?_
  refine lv_dup hx hb dX2_add_27 rfl ?_
  refine va_get (D := D) (ci := 2) (v := .int (nI (n))) (C := RX2) (T := TX2) (N := 9) hx hb hts (fun w h => List.mem_cons_of_mem _ (List.mem_append_right _ h)) hown hK hP 0 rfl rfl 8 (by decide) (hts (.fieldLink RX2 37 "CashAllocator$ReceiptBook" "count" "I") (by decide +kernel)) (fun _ h9 => h9) (congrArg (fun z => some (Value.int z)) hR) dX2_add_28 ?_
  refine lv_iconst (v := 1) hx hb dX2_add_31 (by decide) ?_
  refine lv_iadd hx hb dX2_add_32 ?_
  rw [nI_1]
  refine va_put (D := D) (ci := 2) (v := .int (nI (n + 1))) (ty := .int) (C := RX2) (T := TX2) (N := 9) hx hb hts (fun w h => List.mem_cons_of_mem _ (List.mem_append_right _ h)) tyX2 tyX2_ok nmX2 hown hK hP hD hS 0 rfl rfl 8 (by decide) (hts (.fieldLink RX2 37 "CashAllocator$ReceiptBook" "count" "I") (by decide +kernel)) (fun _ h9 => h9) rfl (by decide +kernel) rfl rfl (Nat.le_of_ble_eq_true rfl) dX2_add_33 (fun H locs hP hD hS => ?_)
  have hP : va_P D vwCl (wRB a cI cZ (pt (pt (pt (pt R 0 (n) (cu)) 1 (n) (am)) 3 (n) (am)) 8 (0) (nI (n + 1)))) H := hP
  have hD : va_D A (wRB a cI cZ (pt (pt (pt (pt R 0 (n) (cu)) 1 (n) (am)) 3 (n) (am)) 8 (0) (nI (n + 1)))) := hD
  refine lv_iload_n hx hb dX2_add_36 rfl (lv_at hl 0 rfl) ?_
  exact W.iret (v := nI (n)) hx hb hr (fun t ht hW => ⟨⟨nI (n), (pt (pt (pt (pt R 0 (n) (cu)) 1 (n) (am)) 3 (n) (am)) 8 (0) (nI (n + 1))), rfl, ⟨rfl, rfl⟩, by rw [ht]; exact hP, va_K.moved hW.alike hK, hD⟩, hS.F ht⟩) hS.2.2 dX2_add_37
set_option maxHeartbeats 4000000 in
set_option maxRecDepth 100000 in
theorem c_X2_cell (l : Launch) (D : va_G) (cI cZ : ClassId) (a : Nat → Nat) (sz : Nat) (rc : Nat) (b : Nat) : Met l yX2_cell wsX2_cell ({ frames := 0, cells := 0, slots := 0, locals := 0 } : Room) (va_Pc [.int (nI (rc)), .int (nI (b))] (PreW D cI cZ ([] : va_W) sz)) (va_Qi (fun (r : Int32) (u : Unit) => r = nI (40 * rc + b)) (fun (u : Unit) => PostW D cI cZ (va_A ([] : va_W) sz) ([] : va_W)) (va_A ([] : va_W) sz)) 0 0 (va_A ([] : va_W) sz) := by
  refine Met.ofW (cc := cX2_cell) (maxL := 2) (ret := (some .int)) (by decide) rfl ?_
  intro p e s m args below meth c s₁ BB hml hv
  obtain ⟨rfl, hsz, hP, hK, hD0⟩ := hv
  have hx := BB.exec
  have hb := BB.bytes
  have hr := BB.returns
  have hts := atoms_spec (ws := wsX2_cell) BB.pre
  have hown : s.vm.findClass RX2 = some m.cls := findClass_of_methodNamed BB.named
  have hlocks := BB.notSynchronized
  clear BB
  subst hsz
  have hD := hD0.self (sz := s.heap.size)
  clear hD0
  generalize hAe : va_A ([] : va_W) s.heap.size = A at hD ⊢
  have hA : ∀ q : Nat, s.heap.size ≤ q → A q := fun q h => by rw [← hAe]; exact Or.inr h
  clear hAe
  have hS : va_S A s.heap s.heap [] := va_S.rf
  have hl := lv_entry ([.int (nI (rc)), .int (nI (b))]) (n := 2) (Nat.le_of_ble_eq_true rfl)
  rw [lg_entry_eq]
  generalize (lg_sl ([.int (nI (rc)), .int (nI (b))]) ++ List.replicate (2 - (lg_sl ([.int (nI (rc)), .int (nI (b))])).length) Slot.unset).toArray = ls at hl ⊢
  have hl : lv_has ls 2 [(0, .int (nI (rc))), (1, .int (nI (b)))] := hl
  generalize hHe : s.heap = H at hP
  have hS : va_S A s.heap H [] := by rw [← hHe]; exact va_S.rf
  clear hHe
  generalize hLe : ([] : List Loc) = locs at hS ⊢
  clear hLe
  refine lv_iload_n hx hb dX2_cell_0 rfl (lv_at hl 0 rfl) ?_
  refine lv_bipush (v := 40) hx hb dX2_cell_1 (by decide) ?_
  refine lv_imul hx hb dX2_cell_3 ?_
  refine lv_iload_n hx hb dX2_cell_4 rfl (lv_at hl 1 rfl) ?_
  refine lv_iadd hx hb dX2_cell_5 ?_
  exact W.iret (v := ((nI (rc)) * (40)) + (nI (b))) hx hb hr (fun t ht hW => ⟨⟨((nI (rc)) * (40)) + (nI (b)), (), rfl, by rw [show (40 : Int32) = nI 40 from rfl, pk_mul, nI_add, Nat.mul_comm], by rw [ht]; exact hP, va_K.moved hW.alike hK, hD⟩, hS.F ht⟩) hS.2.2 dX2_cell_6
set_option maxHeartbeats 4000000 in
set_option maxRecDepth 100000 in
theorem c_X2_hasPaid (l : Launch) (D : va_G) (cI cZ : ClassId) (a : Nat → Nat) (sz : Nat) (R : Nat → Nat → Int32) (rc : Nat) (b : Nat) (hrc : rc < 30) (hbl : b < 40) (hz : R 7 (40 * rc + b) = 0 ∨ R 7 (40 * rc + b) = 1) : Met l yX2_hasPaid wsX2_hasPaid ({ frames := 1, cells := 0, slots := 0, locals := 21 } : Room) (va_Pc [.ref (a 13), .int (nI (rc)), .int (nI (b))] (PreW D cI cZ (wRB a cI cZ R) sz)) (va_Qi (fun (r : Int32) (u : Unit) => r = R 7 (40 * rc + b)) (fun (u : Unit) => PostW D cI cZ (va_A (wRB a cI cZ R) sz) (wRB a cI cZ R)) (va_A (wRB a cI cZ R) sz)) 0 0 (va_A (wRB a cI cZ R) sz) := by
  refine Met.ofW (cc := cX2_hasPaid) (maxL := 3) (ret := (some .boolean)) (by decide) rfl ?_
  intro p e s m args below meth c s₁ BB hml hv
  obtain ⟨rfl, hsz, hP, hK, hD0⟩ := hv
  have hx := BB.exec
  have hb := BB.bytes
  have hr := BB.returns
  have hts := atoms_spec (ws := wsX2_hasPaid) BB.pre
  have hown : s.vm.findClass RX2 = some m.cls := findClass_of_methodNamed BB.named
  have hlocks := BB.notSynchronized
  clear BB
  subst hsz
  have hD := hD0.self (sz := s.heap.size)
  clear hD0
  generalize hAe : va_A (wRB a cI cZ R) s.heap.size = A at hD ⊢
  have hA : ∀ q : Nat, s.heap.size ≤ q → A q := fun q h => by rw [← hAe]; exact Or.inr h
  clear hAe
  have hS : va_S A s.heap s.heap [] := va_S.rf
  have hl := lv_entry ([.ref (a 13), .int (nI (rc)), .int (nI (b))]) (n := 3) (Nat.le_of_ble_eq_true rfl)
  rw [lg_entry_eq]
  generalize (lg_sl ([.ref (a 13), .int (nI (rc)), .int (nI (b))]) ++ List.replicate (3 - (lg_sl ([.ref (a 13), .int (nI (rc)), .int (nI (b))])).length) Slot.unset).toArray = ls at hl ⊢
  have hl : lv_has ls 3 [(0, .ref (a 13)), (1, .int (nI (rc))), (2, .int (nI (b)))] := hl
  generalize hHe : s.heap = H at hP
  have hS : va_S A s.heap H [] := by rw [← hHe]; exact va_S.rf
  clear hHe
  generalize hLe : ([] : List Loc) = locs at hS ⊢
  clear hLe
  refine lv_aload_n hx hb dX2_hasPaid_0 rfl (lv_at hl 0 rfl) ?_
  refine va_get (D := D) (ci := 2) (v := .ref (a 21)) (C := RX2) (T := TX2) (N := 9) hx hb hts (fun w h => List.mem_cons_of_mem _ (List.mem_append_right _ h)) hown hK hP 0 rfl rfl 7 (by decide) (hts (.fieldLink RX2 34 "CashAllocator$ReceiptBook" "hasSum" "[Z") (by decide +kernel)) (fun _ h9 => h9) rfl dX2_hasPaid_1 ?_
  refine lv_iload_n hx hb dX2_hasPaid_4 rfl (lv_at hl 1 rfl) ?_
  refine lv_iload_n hx hb dX2_hasPaid_5 rfl (lv_at hl 2 rfl) ?_
  refine zcSi (wf := (fun (u : Unit) => (wRB a cI cZ R))) (List.range 9) ⟨hx, hb, hml, hown, hts⟩ (zwNo 9 (by decide) rfl hP hD hS hA) hK (c_X2_cell l D cI cZ a H.size (rc) (b) ) (cwS 2 hts gX2_hasPaid_X2_cell rfl rfl rfl (by decide +kernel) ⟨Nat.le_of_ble_eq_true rfl, Nat.le_of_ble_eq_true rfl⟩) (by decide) (fun _ => rfl) rfl hl.1 rfl (Nat.le_of_ble_eq_true rfl) dX2_hasPaid_6 ⟨Nat.le_of_ble_eq_true rfl, Nat.le_of_ble_eq_true rfl⟩ (fun r6 u H locs hw hP hD hS => ?_)
  subst hw
  refine zbld hx hb hK hP 8 (n := 1200) (f := (R 7)) rfl (40 * (rc) + (b)) rfl (by omega) (by decide) dX2_hasPaid_9 ?_
  exact W.zret (ty := .boolean) (v := R 7 (40 * (rc) + (b))) hx hb hr (by rcases hz with z | z <;> rw [z] <;> decide) (fun t ht hW => ⟨⟨R 7 (40 * (rc) + (b)), (), rfl, rfl, by rw [ht]; exact hP, va_K.moved hW.alike hK, hD⟩, hS.F ht⟩) hS.2.2 dX2_hasPaid_10
set_option maxHeartbeats 4000000 in
set_option maxRecDepth 100000 in
theorem c_X2_paidOf (l : Launch) (D : va_G) (cI cZ : ClassId) (a : Nat → Nat) (sz : Nat) (R : Nat → Nat → Int32) (rc : Nat) (b : Nat) (hrc : rc < 30) (hbl : b < 40) : Met l yX2_paidOf wsX2_paidOf ({ frames := 1, cells := 0, slots := 0, locals := 21 } : Room) (va_Pc [.ref (a 13), .int (nI (rc)), .int (nI (b))] (PreW D cI cZ (wRB a cI cZ R) sz)) (va_Qi (fun (r : Int32) (u : Unit) => r = R 6 (40 * rc + b)) (fun (u : Unit) => PostW D cI cZ (va_A (wRB a cI cZ R) sz) (wRB a cI cZ R)) (va_A (wRB a cI cZ R) sz)) 0 0 (va_A (wRB a cI cZ R) sz) := by
  refine Met.ofW (cc := cX2_paidOf) (maxL := 3) (ret := (some .int)) (by decide) rfl ?_
  intro p e s m args below meth c s₁ BB hml hv
  obtain ⟨rfl, hsz, hP, hK, hD0⟩ := hv
  have hx := BB.exec
  have hb := BB.bytes
  have hr := BB.returns
  have hts := atoms_spec (ws := wsX2_paidOf) BB.pre
  have hown : s.vm.findClass RX2 = some m.cls := findClass_of_methodNamed BB.named
  have hlocks := BB.notSynchronized
  clear BB
  subst hsz
  have hD := hD0.self (sz := s.heap.size)
  clear hD0
  generalize hAe : va_A (wRB a cI cZ R) s.heap.size = A at hD ⊢
  have hA : ∀ q : Nat, s.heap.size ≤ q → A q := fun q h => by rw [← hAe]; exact Or.inr h
  clear hAe
  have hS : va_S A s.heap s.heap [] := va_S.rf
  have hl := lv_entry ([.ref (a 13), .int (nI (rc)), .int (nI (b))]) (n := 3) (Nat.le_of_ble_eq_true rfl)
  rw [lg_entry_eq]
  generalize (lg_sl ([.ref (a 13), .int (nI (rc)), .int (nI (b))]) ++ List.replicate (3 - (lg_sl ([.ref (a 13), .int (nI (rc)), .int (nI (b))])).length) Slot.unset).toArray = ls at hl ⊢
  have hl : lv_has ls 3 [(0, .ref (a 13)), (1, .int (nI (rc))), (2, .int (nI (b)))] := hl
  generalize hHe : s.heap = H at hP
  have hS : va_S A s.heap H [] := by rw [← hHe]; exact va_S.rf
  clear hHe
  generalize hLe : ([] : List Loc) = locs at hS ⊢
  clear hLe
  refine lv_aload_n hx hb dX2_paidOf_0 rfl (lv_at hl 0 rfl) ?_
  refine va_get (D := D) (ci := 2) (v := .ref (a 20)) (C := RX2) (T := TX2) (N := 9) hx hb hts (fun w h => List.mem_cons_of_mem _ (List.mem_append_right _ h)) hown hK hP 0 rfl rfl 6 (by decide) (hts (.fieldLink RX2 31 "CashAllocator$ReceiptBook" "sums" "[I") (by decide +kernel)) (fun _ h9 => h9) rfl dX2_paidOf_1 ?_
  refine lv_iload_n hx hb dX2_paidOf_4 rfl (lv_at hl 1 rfl) ?_
  refine lv_iload_n hx hb dX2_paidOf_5 rfl (lv_at hl 2 rfl) ?_
  refine zcSi (wf := (fun (u : Unit) => (wRB a cI cZ R))) (List.range 9) ⟨hx, hb, hml, hown, hts⟩ (zwNo 9 (by decide) rfl hP hD hS hA) hK (c_X2_cell l D cI cZ a H.size (rc) (b) ) (cwS 2 hts gX2_paidOf_X2_cell rfl rfl rfl (by decide +kernel) ⟨Nat.le_of_ble_eq_true rfl, Nat.le_of_ble_eq_true rfl⟩) (by decide) (fun _ => rfl) rfl hl.1 rfl (Nat.le_of_ble_eq_true rfl) dX2_paidOf_6 ⟨Nat.le_of_ble_eq_true rfl, Nat.le_of_ble_eq_true rfl⟩ (fun r6 u H locs hw hP hD hS => ?_)
  subst hw
  refine zald hx hb hK hP 7 (n := 1200) (f := (R 6)) rfl (40 * (rc) + (b)) rfl (by omega) (by decide) dX2_paidOf_9 ?_
  exact W.iret (v := R 6 (40 * (rc) + (b))) hx hb hr (fun t ht hW => ⟨⟨R 6 (40 * (rc) + (b)), (), rfl, rfl, by rw [ht]; exact hP, va_K.moved hW.alike hK, hD⟩, hS.F ht⟩) hS.2.2 dX2_paidOf_10
set_option maxHeartbeats 4000000 in
set_option maxRecDepth 100000 in
theorem c_X2_addPayment (l : Launch) (D : va_G) (cI cZ : ClassId) (a : Nat → Nat) (sz : Nat) (R : Nat → Nat → Int32) (rc : Nat) (b : Nat) (sm : Int32) (hrc : rc < 30) (hbl : b < 40) : Met l yX2_addPayment wsX2_addPayment ({ frames := 1, cells := 0, slots := 0, locals := 21 } : Room) (va_Pc [.ref (a 13), .int (nI (rc)), .int (nI (b)), .int (sm)] (PreW D cI cZ (wRB a cI cZ R) sz)) (va_Qv (fun (u : Nat → Nat → Int32) => u = addP R rc b sm) (fun (u : Nat → Nat → Int32) => PostW D cI cZ (va_A (wRB a cI cZ R) sz) (wRB a cI cZ u)) (va_A (wRB a cI cZ R) sz)) 0 0 (va_A (wRB a cI cZ R) sz) := by
  refine Met.ofW (cc := cX2_addPayment) (maxL := 4) (ret := none) (by decide) rfl ?_
  intro p e s m args below meth c s₁ BB hml hv
  obtain ⟨rfl, hsz, hP, hK, hD0⟩ := hv
  have hx := BB.exec
  have hb := BB.bytes
  have hr := BB.returns
  have hts := atoms_spec (ws := wsX2_addPayment) BB.pre
  have hown : s.vm.findClass RX2 = some m.cls := findClass_of_methodNamed BB.named
  have hlocks := BB.notSynchronized
  clear BB
  subst hsz
  have hD := hD0.self (sz := s.heap.size)
  clear hD0
  generalize hAe : va_A (wRB a cI cZ R) s.heap.size = A at hD ⊢
  have hA : ∀ q : Nat, s.heap.size ≤ q → A q := fun q h => by rw [← hAe]; exact Or.inr h
  clear hAe
  have hS : va_S A s.heap s.heap [] := va_S.rf
  have hl := lv_entry ([.ref (a 13), .int (nI (rc)), .int (nI (b)), .int (sm)]) (n := 4) (Nat.le_of_ble_eq_true rfl)
  rw [lg_entry_eq]
  generalize (lg_sl ([.ref (a 13), .int (nI (rc)), .int (nI (b)), .int (sm)]) ++ List.replicate (4 - (lg_sl ([.ref (a 13), .int (nI (rc)), .int (nI (b)), .int (sm)])).length) Slot.unset).toArray = ls at hl ⊢
  have hl : lv_has ls 4 [(0, .ref (a 13)), (1, .int (nI (rc))), (2, .int (nI (b))), (3, .int (sm))] := hl
  generalize hHe : s.heap = H at hP
  have hS : va_S A s.heap H [] := by rw [← hHe]; exact va_S.rf
  clear hHe
  generalize hLe : ([] : List Loc) = locs at hS ⊢
  clear hLe
  refine lv_aload_n hx hb dX2_addPayment_0 rfl (lv_at hl 0 rfl) ?_
  refine va_get (D := D) (ci := 2) (v := .ref (a 20)) (C := RX2) (T := TX2) (N := 9) hx hb hts (fun w h => List.mem_cons_of_mem _ (List.mem_append_right _ h)) hown hK hP 0 rfl rfl 6 (by decide) (hts (.fieldLink RX2 31 "CashAllocator$ReceiptBook" "sums" "[I") (by decide +kernel)) (fun _ h9 => h9) rfl dX2_addPayment_1 ?_
  refine lv_iload_n hx hb dX2_addPayment_4 rfl (lv_at hl 1 rfl) ?_
  refine lv_iload_n hx hb dX2_addPayment_5 rfl (lv_at hl 2 rfl) ?_
  refine zcSi (wf := (fun (u : Unit) => (wRB a cI cZ R))) (List.range 9) ⟨hx, hb, hml, hown, hts⟩ (zwNo 9 (by decide) rfl hP hD hS hA) hK (c_X2_cell l D cI cZ a H.size (rc) (b) ) (cwS 2 hts gX2_addPayment_X2_cell rfl rfl rfl (by decide +kernel) ⟨Nat.le_of_ble_eq_true rfl, Nat.le_of_ble_eq_true rfl⟩) (by decide) (fun _ => rfl) rfl hl.1 rfl (Nat.le_of_ble_eq_true rfl) dX2_addPayment_6 ⟨Nat.le_of_ble_eq_true rfl, Nat.le_of_ble_eq_true rfl⟩ (fun r6 u H locs hw hP hD hS => ?_)
  subst hw
  refine lv_dup2_11 hx hb dX2_addPayment_9 rfl rfl ?_
  refine zald hx hb hK hP 7 (n := 1200) (f := (R 6)) rfl (40 * (rc) + (b)) rfl (by omega) (by decide) dX2_addPayment_10 ?_
  refine lv_iload_n hx hb dX2_addPayment_11 rfl (lv_at hl 3 rfl) ?_
  refine lv_iadd hx hb dX2_addPayment_12 ?_
  refine zast hx hb hK hP hD hS 7 (n := 1200) (f := (R 6)) rfl (40 * (rc) + (b)) rfl (by omega) (by decide) (wRB a cI cZ (pt R 6 (40 * (rc) + (b)) ((R 6 (40 * (rc) + (b))) + (sm)))) rfl dX2_addPayment_13 (fun H locs hP hD hS => ?_)
  refine lv_aload_n hx hb dX2_addPayment_14 rfl (lv_at hl 0 rfl) ?_
  refine va_get (D := D) (ci := 2) (v := .ref (a 21)) (C := RX2) (T := TX2) (N := 9) hx hb hts (fun w h => List.mem_cons_of_mem _ (List.mem_append_right _ h)) hown hK hP 0 rfl rfl 7 (by decide) (hts (.fieldLink RX2 34 "CashAllocator$ReceiptBook" "hasSum" "[Z") (by decide +kernel)) (fun _ h9 => h9) rfl dX2_addPayment_15 ?_
  refine lv_iload_n hx hb dX2_addPayment_18 rfl (lv_at hl 1 rfl) ?_
  refine lv_iload_n hx hb dX2_addPayment_19 rfl (lv_at hl 2 rfl) ?_
  refine zcSi (wf := (fun (u : Unit) => (wRB a cI cZ (pt R 6 (40 * (rc) + (b)) ((R 6 (40 * (rc) + (b))) + (sm)))))) (List.range 9) ⟨hx, hb, hml, hown, hts⟩ (zwNo 9 (by decide) rfl hP hD hS hA) hK (c_X2_cell l D cI cZ a H.size (rc) (b) ) (cwS 2 hts gX2_addPayment_X2_cell rfl rfl rfl (by decide +kernel) ⟨Nat.le_of_ble_eq_true rfl, Nat.le_of_ble_eq_true rfl⟩) (by decide) (fun _ => rfl) rfl hl.1 rfl (Nat.le_of_ble_eq_true rfl) dX2_addPayment_20 ⟨Nat.le_of_ble_eq_true rfl, Nat.le_of_ble_eq_true rfl⟩ (fun r20 u H locs hw hP hD hS => ?_)
  subst hw
  refine lv_iconst (v := 1) hx hb dX2_addPayment_23 (by decide) ?_
  refine zbst hx hb hK hP hD hS 8 (n := 1200) (f := (R 7)) rfl (40 * (rc) + (b)) rfl (by omega) (by decide) (by decide) (wRB a cI cZ (pt (pt R 6 (40 * (rc) + (b)) ((R 6 (40 * (rc) + (b))) + (sm))) 7 (40 * (rc) + (b)) (1))) rfl dX2_addPayment_24 (fun H locs hP hD hS => ?_)
  refine lv_aload_n hx hb dX2_addPayment_25 rfl (lv_at hl 0 rfl) ?_
  refine va_get (D := D) (ci := 2) (v := .ref (a 16)) (C := RX2) (T := TX2) (N := 9) hx hb hts (fun w h => List.mem_cons_of_mem _ (List.mem_append_right _ h)) hown hK hP 0 rfl rfl 2 (by decide) (hts (.fieldLink RX2 18 "CashAllocator$ReceiptBook" "applied" "[I") (by decide +kernel)) (fun _ h9 => h9) rfl dX2_addPayment_26 ?_
  refine lv_iload_n hx hb dX2_addPayment_29 rfl (lv_at hl 1 rfl) ?_
  refine lv_dup2_11 hx hb dX2_addPayment_30 rfl rfl ?_
  refine zald hx hb hK hP 3 (n := 30) (f := (R 2)) rfl (rc) rfl (by omega) (by decide) dX2_addPayment_31 ?_
  refine lv_iload_n hx hb dX2_addPayment_32 rfl (lv_at hl 3 rfl) ?_
  refine lv_iadd hx hb dX2_addPayment_33 ?_
  refine zast hx hb hK hP hD hS 3 (n := 30) (f := (R 2)) rfl (rc) rfl (by omega) (by decide) (wRB a cI cZ (pt (pt (pt R 6 (40 * (rc) + (b)) ((R 6 (40 * (rc) + (b))) + (sm))) 7 (40 * (rc) + (b)) (1)) 2 (rc) ((R 2 (rc)) + (sm)))) rfl dX2_addPayment_34 (fun H locs hP hD hS => ?_)
  refine lv_aload_n hx hb dX2_addPayment_35 rfl (lv_at hl 0 rfl) ?_
  refine va_get (D := D) (ci := 2) (v := .ref (a 17)) (C := RX2) (T := TX2) (N := 9) hx hb hts (fun w h => List.mem_cons_of_mem _ (List.mem_append_right _ h)) hown hK hP 0 rfl rfl 3 (by decide) (hts (.fieldLink RX2 21 "CashAllocator$ReceiptBook" "unapplied" "[I") (by decide +kernel)) (fun _ h9 => h9) rfl dX2_addPayment_36 ?_
  refine lv_iload_n hx hb dX2_addPayment_39 rfl (lv_at hl 1 rfl) ?_
  refine lv_dup2_11 hx hb dX2_addPayment_40 rfl rfl ?_
  refine zald hx hb hK hP 4 (n := 30) (f := (R 3)) rfl (rc) rfl (by omega) (by decide) dX2_addPayment_41 ?_
  refine lv_iload_n hx hb dX2_addPayment_42 rfl (lv_at hl 3 rfl) ?_
  refine lv_isub hx hb dX2_addPayment_43 ?_
  refine zast hx hb hK hP hD hS 4 (n := 30) (f := (R 3)) rfl (rc) rfl (by omega) (by decide) (wRB a cI cZ (pt (pt (pt (pt R 6 (40 * (rc) + (b)) ((R 6 (40 * (rc) + (b))) + (sm))) 7 (40 * (rc) + (b)) (1)) 2 (rc) ((R 2 (rc)) + (sm))) 3 (rc) ((R 3 (rc)) - (sm)))) rfl dX2_addPayment_44 (fun H locs hP hD hS => ?_)
  exact W.vret hx hb hr (fun t ht hW => ⟨⟨(pt (pt (pt (pt R 6 (40 * (rc) + (b)) ((R 6 (40 * (rc) + (b))) + (sm))) 7 (40 * (rc) + (b)) (1)) 2 (rc) ((R 2 (rc)) + (sm))) 3 (rc) ((R 3 (rc)) - (sm))), rfl, rfl, by rw [ht]; exact hP, va_K.moved hW.alike hK, hD⟩, hS.F ht⟩) hS.2.2 dX2_addPayment_45
set_option maxHeartbeats 4000000 in
set_option maxRecDepth 100000 in
theorem c_X2_dropPayment (l : Launch) (D : va_G) (cI cZ : ClassId) (a : Nat → Nat) (sz : Nat) (R : Nat → Nat → Int32) (rc : Nat) (b : Nat) (hrc : rc < 30) (hbl : b < 40) : Met l yX2_dropPayment wsX2_dropPayment ({ frames := 1, cells := 0, slots := 0, locals := 21 } : Room) (va_Pc [.ref (a 13), .int (nI (rc)), .int (nI (b))] (PreW D cI cZ (wRB a cI cZ R) sz)) (va_Qv (fun (u : Nat → Nat → Int32) => u = drpP R rc b) (fun (u : Nat → Nat → Int32) => PostW D cI cZ (va_A (wRB a cI cZ R) sz) (wRB a cI cZ u)) (va_A (wRB a cI cZ R) sz)) 0 0 (va_A (wRB a cI cZ R) sz) := by
  refine Met.ofW (cc := cX2_dropPayment) (maxL := 3) (ret := none) (by decide) rfl ?_
  intro p e s m args below meth c s₁ BB hml hv
  obtain ⟨rfl, hsz, hP, hK, hD0⟩ := hv
  have hx := BB.exec
  have hb := BB.bytes
  have hr := BB.returns
  have hts := atoms_spec (ws := wsX2_dropPayment) BB.pre
  have hown : s.vm.findClass RX2 = some m.cls := findClass_of_methodNamed BB.named
  have hlocks := BB.notSynchronized
  clear BB
  subst hsz
  have hD := hD0.self (sz := s.heap.size)
  clear hD0
  generalize hAe : va_A (wRB a cI cZ R) s.heap.size = A at hD ⊢
  have hA : ∀ q : Nat, s.heap.size ≤ q → A q := fun q h => by rw [← hAe]; exact Or.inr h
  clear hAe
  have hS : va_S A s.heap s.heap [] := va_S.rf
  have hl := lv_entry ([.ref (a 13), .int (nI (rc)), .int (nI (b))]) (n := 3) (Nat.le_of_ble_eq_true rfl)
  rw [lg_entry_eq]
  generalize (lg_sl ([.ref (a 13), .int (nI (rc)), .int (nI (b))]) ++ List.replicate (3 - (lg_sl ([.ref (a 13), .int (nI (rc)), .int (nI (b))])).length) Slot.unset).toArray = ls at hl ⊢
  have hl : lv_has ls 3 [(0, .ref (a 13)), (1, .int (nI (rc))), (2, .int (nI (b)))] := hl
  generalize hHe : s.heap = H at hP
  have hS : va_S A s.heap H [] := by rw [← hHe]; exact va_S.rf
  clear hHe
  generalize hLe : ([] : List Loc) = locs at hS ⊢
  clear hLe
  refine lv_aload_n hx hb dX2_dropPayment_0 rfl (lv_at hl 0 rfl) ?_
  refine va_get (D := D) (ci := 2) (v := .ref (a 16)) (C := RX2) (T := TX2) (N := 9) hx hb hts (fun w h => List.mem_cons_of_mem _ (List.mem_append_right _ h)) hown hK hP 0 rfl rfl 2 (by decide) (hts (.fieldLink RX2 18 "CashAllocator$ReceiptBook" "applied" "[I") (by decide +kernel)) (fun _ h9 => h9) rfl dX2_dropPayment_1 ?_
  refine lv_iload_n hx hb dX2_dropPayment_4 rfl (lv_at hl 1 rfl) ?_
  refine lv_dup2_11 hx hb dX2_dropPayment_5 rfl rfl ?_
  refine zald hx hb hK hP 3 (n := 30) (f := (R 2)) rfl (rc) rfl (by omega) (by decide) dX2_dropPayment_6 ?_
  refine lv_aload_n hx hb dX2_dropPayment_7 rfl (lv_at hl 0 rfl) ?_
  refine va_get (D := D) (ci := 2) (v := .ref (a 20)) (C := RX2) (T := TX2) (N := 9) hx hb hts (fun w h => List.mem_cons_of_mem _ (List.mem_append_right _ h)) hown hK hP 0 rfl rfl 6 (by decide) (hts (.fieldLink RX2 31 "CashAllocator$ReceiptBook" "sums" "[I") (by decide +kernel)) (fun _ h9 => h9) rfl dX2_dropPayment_8 ?_
  refine lv_iload_n hx hb dX2_dropPayment_11 rfl (lv_at hl 1 rfl) ?_
  refine lv_iload_n hx hb dX2_dropPayment_12 rfl (lv_at hl 2 rfl) ?_
  refine zcSi (wf := (fun (u : Unit) => (wRB a cI cZ R))) (List.range 9) ⟨hx, hb, hml, hown, hts⟩ (zwNo 9 (by decide) rfl hP hD hS hA) hK (c_X2_cell l D cI cZ a H.size (rc) (b) ) (cwS 2 hts gX2_dropPayment_X2_cell rfl rfl rfl (by decide +kernel) ⟨Nat.le_of_ble_eq_true rfl, Nat.le_of_ble_eq_true rfl⟩) (by decide) (fun _ => rfl) rfl hl.1 rfl (Nat.le_of_ble_eq_true rfl) dX2_dropPayment_13 ⟨Nat.le_of_ble_eq_true rfl, Nat.le_of_ble_eq_true rfl⟩ (fun r13 u H locs hw hP hD hS => ?_)
  subst hw
  refine zald hx hb hK hP 7 (n := 1200) (f := (R 6)) rfl (40 * (rc) + (b)) rfl (by omega) (by decide) dX2_dropPayment_16 ?_
  refine lv_isub hx hb dX2_dropPayment_17 ?_
  refine zast hx hb hK hP hD hS 3 (n := 30) (f := (R 2)) rfl (rc) rfl (by omega) (by decide) (wRB a cI cZ (pt R 2 (rc) ((R 2 (rc)) - (R 6 (40 * (rc) + (b)))))) rfl dX2_dropPayment_18 (fun H locs hP hD hS => ?_)
  refine lv_aload_n hx hb dX2_dropPayment_19 rfl (lv_at hl 0 rfl) ?_
  refine va_get (D := D) (ci := 2) (v := .ref (a 20)) (C := RX2) (T := TX2) (N := 9) hx hb hts (fun w h => List.mem_cons_of_mem _ (List.mem_append_right _ h)) hown hK hP 0 rfl rfl 6 (by decide) (hts (.fieldLink RX2 31 "CashAllocator$ReceiptBook" "sums" "[I") (by decide +kernel)) (fun _ h9 => h9) rfl dX2_dropPayment_20 ?_
  refine lv_iload_n hx hb dX2_dropPayment_23 rfl (lv_at hl 1 rfl) ?_
  refine lv_iload_n hx hb dX2_dropPayment_24 rfl (lv_at hl 2 rfl) ?_
  refine zcSi (wf := (fun (u : Unit) => (wRB a cI cZ (pt R 2 (rc) ((R 2 (rc)) - (R 6 (40 * (rc) + (b)))))))) (List.range 9) ⟨hx, hb, hml, hown, hts⟩ (zwNo 9 (by decide) rfl hP hD hS hA) hK (c_X2_cell l D cI cZ a H.size (rc) (b) ) (cwS 2 hts gX2_dropPayment_X2_cell rfl rfl rfl (by decide +kernel) ⟨Nat.le_of_ble_eq_true rfl, Nat.le_of_ble_eq_true rfl⟩) (by decide) (fun _ => rfl) rfl hl.1 rfl (Nat.le_of_ble_eq_true rfl) dX2_dropPayment_25 ⟨Nat.le_of_ble_eq_true rfl, Nat.le_of_ble_eq_true rfl⟩ (fun r25 u H locs hw hP hD hS => ?_)
  subst hw
  refine lv_iconst (v := 0) hx hb dX2_dropPayment_28 (by decide) ?_
  refine zast hx hb hK hP hD hS 7 (n := 1200) (f := (R 6)) rfl (40 * (rc) + (b)) rfl (by omega) (by decide) (wRB a cI cZ (pt (pt R 2 (rc) ((R 2 (rc)) - (R 6 (40 * (rc) + (b))))) 6 (40 * (rc) + (b)) (0))) rfl dX2_dropPayment_29 (fun H locs hP hD hS => ?_)
  refine lv_aload_n hx hb dX2_dropPayment_30 rfl (lv_at hl 0 rfl) ?_
  refine va_get (D := D) (ci := 2) (v := .ref (a 21)) (C := RX2) (T := TX2) (N := 9) hx hb hts (fun w h => List.mem_cons_of_mem _ (List.mem_append_right _ h)) hown hK hP 0 rfl rfl 7 (by decide) (hts (.fieldLink RX2 34 "CashAllocator$ReceiptBook" "hasSum" "[Z") (by decide +kernel)) (fun _ h9 => h9) rfl dX2_dropPayment_31 ?_
  refine lv_iload_n hx hb dX2_dropPayment_34 rfl (lv_at hl 1 rfl) ?_
  refine lv_iload_n hx hb dX2_dropPayment_35 rfl (lv_at hl 2 rfl) ?_
  refine zcSi (wf := (fun (u : Unit) => (wRB a cI cZ (pt (pt R 2 (rc) ((R 2 (rc)) - (R 6 (40 * (rc) + (b))))) 6 (40 * (rc) + (b)) (0))))) (List.range 9) ⟨hx, hb, hml, hown, hts⟩ (zwNo 9 (by decide) rfl hP hD hS hA) hK (c_X2_cell l D cI cZ a H.size (rc) (b) ) (cwS 2 hts gX2_dropPayment_X2_cell rfl rfl rfl (by decide +kernel) ⟨Nat.le_of_ble_eq_true rfl, Nat.le_of_ble_eq_true rfl⟩) (by decide) (fun _ => rfl) rfl hl.1 rfl (Nat.le_of_ble_eq_true rfl) dX2_dropPayment_36 ⟨Nat.le_of_ble_eq_true rfl, Nat.le_of_ble_eq_true rfl⟩ (fun r36 u H locs hw hP hD hS => ?_)
  subst hw
  refine lv_iconst (v := 0) hx hb dX2_dropPayment_39 (by decide) ?_
  refine zbst hx hb hK hP hD hS 8 (n := 1200) (f := (R 7)) rfl (40 * (rc) + (b)) rfl (by omega) (by decide) (by decide) (wRB a cI cZ (pt (pt (pt R 2 (rc) ((R 2 (rc)) - (R 6 (40 * (rc) + (b))))) 6 (40 * (rc) + (b)) (0)) 7 (40 * (rc) + (b)) (0))) rfl dX2_dropPayment_40 (fun H locs hP hD hS => ?_)
  exact W.vret hx hb hr (fun t ht hW => ⟨⟨(pt (pt (pt R 2 (rc) ((R 2 (rc)) - (R 6 (40 * (rc) + (b))))) 6 (40 * (rc) + (b)) (0)) 7 (40 * (rc) + (b)) (0)), rfl, rfl, by rw [ht]; exact hP, va_K.moved hW.alike hK, hD⟩, hS.F ht⟩) hS.2.2 dX2_dropPayment_41
set_option maxHeartbeats 4000000 in
set_option maxRecDepth 100000 in
theorem c_X2_markBounced (l : Launch) (D : va_G) (cI cZ : ClassId) (a : Nat → Nat) (sz : Nat) (R : Nat → Nat → Int32) (rc : Nat) (hrc : rc < 30) : Met l yX2_markBounced wsX2_markBounced ({ frames := 0, cells := 0, slots := 0, locals := 0 } : Room) (va_Pc [.ref (a 13), .int (nI (rc))] (PreW D cI cZ (wRB a cI cZ R) sz)) (va_Qv (fun (u : Nat → Nat → Int32) => u = mkB R rc) (fun (u : Nat → Nat → Int32) => PostW D cI cZ (va_A (wRB a cI cZ R) sz) (wRB a cI cZ u)) (va_A (wRB a cI cZ R) sz)) 0 0 (va_A (wRB a cI cZ R) sz) := by
  refine Met.ofW (cc := cX2_markBounced) (maxL := 2) (ret := none) (by decide) rfl ?_
  intro p e s m args below meth c s₁ BB hml hv
  obtain ⟨rfl, hsz, hP, hK, hD0⟩ := hv
  have hx := BB.exec
  have hb := BB.bytes
  have hr := BB.returns
  have hts := atoms_spec (ws := wsX2_markBounced) BB.pre
  have hown : s.vm.findClass RX2 = some m.cls := findClass_of_methodNamed BB.named
  have hlocks := BB.notSynchronized
  clear BB
  subst hsz
  have hD := hD0.self (sz := s.heap.size)
  clear hD0
  generalize hAe : va_A (wRB a cI cZ R) s.heap.size = A at hD ⊢
  have hA : ∀ q : Nat, s.heap.size ≤ q → A q := fun q h => by rw [← hAe]; exact Or.inr h
  clear hAe
  have hS : va_S A s.heap s.heap [] := va_S.rf
  have hl := lv_entry ([.ref (a 13), .int (nI (rc))]) (n := 2) (Nat.le_of_ble_eq_true rfl)
  rw [lg_entry_eq]
  generalize (lg_sl ([.ref (a 13), .int (nI (rc))]) ++ List.replicate (2 - (lg_sl ([.ref (a 13), .int (nI (rc))])).length) Slot.unset).toArray = ls at hl ⊢
  have hl : lv_has ls 2 [(0, .ref (a 13)), (1, .int (nI (rc)))] := hl
  generalize hHe : s.heap = H at hP
  have hS : va_S A s.heap H [] := by rw [← hHe]; exact va_S.rf
  clear hHe
  generalize hLe : ([] : List Loc) = locs at hS ⊢
  clear hLe
  refine lv_aload_n hx hb dX2_markBounced_0 rfl (lv_at hl 0 rfl) ?_
  refine va_get (D := D) (ci := 2) (v := .ref (a 17)) (C := RX2) (T := TX2) (N := 9) hx hb hts (fun w h => List.mem_cons_of_mem _ (List.mem_append_right _ h)) hown hK hP 0 rfl rfl 3 (by decide) (hts (.fieldLink RX2 21 "CashAllocator$ReceiptBook" "unapplied" "[I") (by decide +kernel)) (fun _ h9 => h9) rfl dX2_markBounced_1 ?_
  refine lv_iload_n hx hb dX2_markBounced_4 rfl (lv_at hl 1 rfl) ?_
  refine lv_iconst (v := 0) hx hb dX2_markBounced_5 (by decide) ?_
  refine zast hx hb hK hP hD hS 4 (n := 30) (f := (R 3)) rfl (rc) rfl (by omega) (by decide) (wRB a cI cZ (pt R 3 (rc) (0))) rfl dX2_markBounced_6 (fun H locs hP hD hS => ?_)
  refine lv_aload_n hx hb dX2_markBounced_7 rfl (lv_at hl 0 rfl) ?_
  refine va_get (D := D) (ci := 2) (v := .ref (a 19)) (C := RX2) (T := TX2) (N := 9) hx hb hts (fun w h => List.mem_cons_of_mem _ (List.mem_append_right _ h)) hown hK hP 0 rfl rfl 5 (by decide) (hts (.fieldLink RX2 27 "CashAllocator$ReceiptBook" "isBounced" "[Z") (by decide +kernel)) (fun _ h9 => h9) rfl dX2_markBounced_8 ?_
  refine lv_iload_n hx hb dX2_markBounced_11 rfl (lv_at hl 1 rfl) ?_
  refine lv_iconst (v := 1) hx hb dX2_markBounced_12 (by decide) ?_
  refine zbst hx hb hK hP hD hS 6 (n := 30) (f := (R 5)) rfl (rc) rfl (by omega) (by decide) (by decide) (wRB a cI cZ (pt (pt R 3 (rc) (0)) 5 (rc) (1))) rfl dX2_markBounced_13 (fun H locs hP hD hS => ?_)
  exact W.vret hx hb hr (fun t ht hW => ⟨⟨(pt (pt R 3 (rc) (0)) 5 (rc) (1)), rfl, rfl, by rw [ht]; exact hP, va_K.moved hW.alike hK, hD⟩, hS.F ht⟩) hS.2.2 dX2_markBounced_14
set_option maxHeartbeats 4000000 in
set_option maxRecDepth 100000 in
theorem c_X2_payBackRest (l : Launch) (D : va_G) (cI cZ : ClassId) (a : Nat → Nat) (sz : Nat) (R : Nat → Nat → Int32) (rc : Nat) (hrc : rc < 30) : Met l yX2_payBackRest wsX2_payBackRest ({ frames := 0, cells := 0, slots := 0, locals := 0 } : Room) (va_Pc [.ref (a 13), .int (nI (rc))] (PreW D cI cZ (wRB a cI cZ R) sz)) (va_Qi (fun (r : Int32) (u : Nat → Nat → Int32) => r = R 3 rc ∧ u = pbR R rc) (fun (u : Nat → Nat → Int32) => PostW D cI cZ (va_A (wRB a cI cZ R) sz) (wRB a cI cZ u)) (va_A (wRB a cI cZ R) sz)) 0 0 (va_A (wRB a cI cZ R) sz) := by
  refine Met.ofW (cc := cX2_payBackRest) (maxL := 3) (ret := (some .int)) (by decide) rfl ?_
  intro p e s m args below meth c s₁ BB hml hv
  obtain ⟨rfl, hsz, hP, hK, hD0⟩ := hv
  have hx := BB.exec
  have hb := BB.bytes
  have hr := BB.returns
  have hts := atoms_spec (ws := wsX2_payBackRest) BB.pre
  have hown : s.vm.findClass RX2 = some m.cls := findClass_of_methodNamed BB.named
  have hlocks := BB.notSynchronized
  clear BB
  subst hsz
  have hD := hD0.self (sz := s.heap.size)
  clear hD0
  generalize hAe : va_A (wRB a cI cZ R) s.heap.size = A at hD ⊢
  have hA : ∀ q : Nat, s.heap.size ≤ q → A q := fun q h => by rw [← hAe]; exact Or.inr h
  clear hAe
  have hS : va_S A s.heap s.heap [] := va_S.rf
  have hl := lv_entry ([.ref (a 13), .int (nI (rc))]) (n := 3) (Nat.le_of_ble_eq_true rfl)
  rw [lg_entry_eq]
  generalize (lg_sl ([.ref (a 13), .int (nI (rc))]) ++ List.replicate (3 - (lg_sl ([.ref (a 13), .int (nI (rc))])).length) Slot.unset).toArray = ls at hl ⊢
  have hl : lv_has ls 3 [(0, .ref (a 13)), (1, .int (nI (rc)))] := hl
  generalize hHe : s.heap = H at hP
  have hS : va_S A s.heap H [] := by rw [← hHe]; exact va_S.rf
  clear hHe
  generalize hLe : ([] : List Loc) = locs at hS ⊢
  clear hLe
  refine lv_aload_n hx hb dX2_payBackRest_0 rfl (lv_at hl 0 rfl) ?_
  refine va_get (D := D) (ci := 2) (v := .ref (a 17)) (C := RX2) (T := TX2) (N := 9) hx hb hts (fun w h => List.mem_cons_of_mem _ (List.mem_append_right _ h)) hown hK hP 0 rfl rfl 3 (by decide) (hts (.fieldLink RX2 21 "CashAllocator$ReceiptBook" "unapplied" "[I") (by decide +kernel)) (fun _ h9 => h9) rfl dX2_payBackRest_1 ?_
  refine lv_iload_n hx hb dX2_payBackRest_4 rfl (lv_at hl 1 rfl) ?_
  refine zald hx hb hK hP 4 (n := 30) (f := (R 3)) rfl (rc) rfl (by omega) (by decide) dX2_payBackRest_5 ?_
  refine lv_istore_n (lv' := [(2, .int (R 3 (rc))), (0, .ref (a 13)), (1, .int (nI (rc)))]) hx hb dX2_payBackRest_6 rfl hl (by decide) rfl (fun ls hl => ?_)
  refine lv_aload_n hx hb dX2_payBackRest_7 rfl (lv_at hl 1 rfl) ?_
  refine va_get (D := D) (ci := 2) (v := .ref (a 17)) (C := RX2) (T := TX2) (N := 9) hx hb hts (fun w h => List.mem_cons_of_mem _ (List.mem_append_right _ h)) hown hK hP 0 rfl rfl 3 (by decide) (hts (.fieldLink RX2 21 "CashAllocator$ReceiptBook" "unapplied" "[I") (by decide +kernel)) (fun _ h9 => h9) rfl dX2_payBackRest_8 ?_
  refine lv_iload_n hx hb dX2_payBackRest_11 rfl (lv_at hl 2 rfl) ?_
  refine lv_iconst (v := 0) hx hb dX2_payBackRest_12 (by decide) ?_
  refine zast hx hb hK hP hD hS 4 (n := 30) (f := (R 3)) rfl (rc) rfl (by omega) (by decide) (wRB a cI cZ (pt R 3 (rc) (0))) rfl dX2_payBackRest_13 (fun H locs hP hD hS => ?_)
  refine lv_aload_n hx hb dX2_payBackRest_14 rfl (lv_at hl 1 rfl) ?_
  refine va_get (D := D) (ci := 2) (v := .ref (a 18)) (C := RX2) (T := TX2) (N := 9) hx hb hts (fun w h => List.mem_cons_of_mem _ (List.mem_append_right _ h)) hown hK hP 0 rfl rfl 4 (by decide) (hts (.fieldLink RX2 24 "CashAllocator$ReceiptBook" "paidBack" "[I") (by decide +kernel)) (fun _ h9 => h9) rfl dX2_payBackRest_15 ?_
  refine lv_iload_n hx hb dX2_payBackRest_18 rfl (lv_at hl 2 rfl) ?_
  refine lv_dup2_11 hx hb dX2_payBackRest_19 rfl rfl ?_
  refine zald hx hb hK hP 5 (n := 30) (f := (R 4)) rfl (rc) rfl (by omega) (by decide) dX2_payBackRest_20 ?_
  refine lv_iload_n hx hb dX2_payBackRest_21 rfl (lv_at hl 0 rfl) ?_
  refine lv_iadd hx hb dX2_payBackRest_22 ?_
  refine zast hx hb hK hP hD hS 5 (n := 30) (f := (R 4)) rfl (rc) rfl (by omega) (by decide) (wRB a cI cZ (pt (pt R 3 (rc) (0)) 4 (rc) ((R 4 (rc)) + (R 3 (rc))))) rfl dX2_payBackRest_23 (fun H locs hP hD hS => ?_)
  refine lv_iload_n hx hb dX2_payBackRest_24 rfl (lv_at hl 0 rfl) ?_
  exact W.iret (v := R 3 (rc)) hx hb hr (fun t ht hW => ⟨⟨R 3 (rc), (pt (pt R 3 (rc) (0)) 4 (rc) ((R 4 (rc)) + (R 3 (rc)))), rfl, ⟨rfl, rfl⟩, by rw [ht]; exact hP, va_K.moved hW.alike hK, hD⟩, hS.F ht⟩) hS.2.2 dX2_payBackRest_25
set_option maxHeartbeats 4000000 in
set_option maxRecDepth 100000 in
theorem c_X2_totalOf_1 (l : Launch) (D : va_G) (cI cZ : ClassId) (a : Nat → Nat) (sz : Nat) (R : Nat → Nat → Int32) (n : Nat) (hR : R 8 0 = nI n) (hn : n ≤ 30) : Met l yX2_totalOf wsX2_totalOf ({ frames := 0, cells := 0, slots := 0, locals := 0 } : Room) (va_Pc [.ref (a 13), .ref (a 15)] (PreW D cI cZ (wRB a cI cZ R) sz)) (va_Qi (fun (r : Int32) (u : Unit) => r = l_sum (R 1) n) (fun (u : Unit) => PostW D cI cZ (va_A (wRB a cI cZ R) sz) (wRB a cI cZ R)) (va_A (wRB a cI cZ R) sz)) 0 0 (va_A (wRB a cI cZ R) sz) := by
  refine Met.ofW (cc := cX2_totalOf) (maxL := 4) (ret := (some .int)) (by decide) rfl ?_
  intro p e s m args below meth c s₁ BB hml hv
  obtain ⟨rfl, hsz, hP, hK, hD0⟩ := hv
  have hx := BB.exec
  have hb := BB.bytes
  have hr := BB.returns
  have hts := atoms_spec (ws := wsX2_totalOf) BB.pre
  have hown : s.vm.findClass RX2 = some m.cls := findClass_of_methodNamed BB.named
  have hlocks := BB.notSynchronized
  clear BB
  subst hsz
  have hD := hD0.self (sz := s.heap.size)
  clear hD0
  generalize hAe : va_A (wRB a cI cZ R) s.heap.size = A at hD ⊢
  have hA : ∀ q : Nat, s.heap.size ≤ q → A q := fun q h => by rw [← hAe]; exact Or.inr h
  clear hAe
  have hS : va_S A s.heap s.heap [] := va_S.rf
  have hl := lv_entry ([.ref (a 13), .ref (a 15)]) (n := 4) (Nat.le_of_ble_eq_true rfl)
  rw [lg_entry_eq]
  generalize (lg_sl ([.ref (a 13), .ref (a 15)]) ++ List.replicate (4 - (lg_sl ([.ref (a 13), .ref (a 15)])).length) Slot.unset).toArray = ls at hl ⊢
  have hl : lv_has ls 4 [(0, .ref (a 13)), (1, .ref (a 15))] := hl
  generalize hHe : s.heap = H at hP
  have hS : va_S A s.heap H [] := by rw [← hHe]; exact va_S.rf
  clear hHe
  generalize hLe : ([] : List Loc) = locs at hS ⊢
  clear hLe
  refine lv_iconst (v := 0) hx hb dX2_totalOf_0 (by decide) ?_
  refine lv_istore_n (lv' := [(2, .int (0)), (0, .ref (a 13)), (1, .ref (a 15))]) hx hb dX2_totalOf_1 rfl hl (by decide) rfl (fun ls hl => ?_)
  refine lv_iconst (v := nI (0)) hx hb dX2_totalOf_2 (by decide) ?_
  refine lv_istore_n (lv' := [(3, .int (nI (0))), (2, .int (0)), (0, .ref (a 13)), (1, .ref (a 15))]) hx hb dX2_totalOf_3 rfl hl (by decide) rfl (fun ls hl => ?_)
  have loop4 : ∀ (fu : Nat) (i : Nat) (tt : Int32) (hin : i ≤ n) (ht : tt = l_sum (R 1) i) (hfu : n - i < fu) (H : Heap) (locs : List Loc) (hP : va_P D vwCl (wRB a cI cZ R) H) (hD : va_D A (wRB a cI cZ R)) (hS : va_S A s.heap H locs) (ls : Array Slot) (hl : lv_has ls 4 [(3, .int (nI (i))), (2, .int (tt)), (0, .ref (a 13)), (1, .ref (a 15))]), W p l e (headSpec wsX2_totalOf ({ frames := 0, cells := 0, slots := 0, locals := 0 } : Room)).room s m ([.ref (a 13), .ref (a 15)] : List Value).toArray below meth c H locs 0 0 (MQ below (va_Qi (fun (r : Int32) (u : Unit) => r = l_sum (R 1) n) (fun (u : Unit) => PostW D cI cZ A (wRB a cI cZ R)) A) ([.ref (a 13), .ref (a 15)] : List Value).toArray s 0 0 A) (F0 m 4 ls []) := by
    clear hP hD hS hl
    intro fu4
    induction fu4 with
    | zero => intro i tt hin ht hfu; exact absurd hfu (Nat.not_lt_zero _)
    | succ fu4 ih4 =>
      intro i tt hin ht hfu H locs hP hD hS ls hl
      refine lv_iload_n hx hb dX2_totalOf_4 rfl (lv_at hl 0 rfl) ?_
      refine lv_aload_n hx hb dX2_totalOf_5 rfl (lv_at hl 2 rfl) ?_
      refine va_get (D := D) (ci := 2) (v := .int (nI (n))) (C := RX2) (T := TX2) (N := 9) hx hb hts (fun w h => List.mem_cons_of_mem _ (List.mem_append_right _ h)) hown hK hP 0 rfl rfl 8 (by decide) (hts (.fieldLink RX2 37 "CashAllocator$ReceiptBook" "count" "I") (by decide +kernel)) (fun _ h9 => h9) (congrArg (fun z => some (Value.int z)) hR) dX2_totalOf_6 ?_
      refine lv_icmp_ge (tgt := 30) hx hb dX2_totalOf_9 (by decide) (fun c9 => ?_) (fun c9 => ?_)
      · -- 9 taken
        rw [nI_leI (by omega) (by omega)] at c9
        refine lv_iload_n hx hb dX2_totalOf_30 rfl (lv_at hl 1 rfl) ?_
        have hfin : tt = l_sum (R 1) n := by rw [ht]; congr 1; omega
        exact W.iret (v := tt) hx hb hr (fun t ht hW => ⟨⟨tt, (), rfl, hfin, by rw [ht]; exact hP, va_K.moved hW.alike hK, hD⟩, hS.F ht⟩) hS.2.2 dX2_totalOf_31
      · -- 9 on
        rw [nI_leI (by omega) (by omega)] at c9
        have c9 : i < n := by omega
        refine lv_iload_n hx hb dX2_totalOf_12 rfl (lv_at hl 0 rfl) ?_
        refine lv_aload_n hx hb dX2_totalOf_13 rfl (lv_at hl 3 rfl) ?_
        refine va_alen (v := nI (30)) hx hb hK hP 2 0 rfl rfl rfl dX2_totalOf_14 ?_
        refine lv_icmp_ge (tgt := 30) hx hb dX2_totalOf_15 (by decide) (fun c15 => ?_) (fun c15 => ?_)
        · -- 15 taken
          rw [nI_leI (by omega) (by omega)] at c15
          exact absurd c15 (by omega)
        · -- 15 on
          rw [nI_leI (by omega) (by omega)] at c15
          refine lv_iload_n hx hb dX2_totalOf_18 rfl (lv_at hl 1 rfl) ?_
          refine lv_aload_n hx hb dX2_totalOf_19 rfl (lv_at hl 3 rfl) ?_
          refine lv_iload_n hx hb dX2_totalOf_20 rfl (lv_at hl 0 rfl) ?_
          refine zald hx hb hK hP 2 (n := 30) (f := (R 1)) rfl (i) rfl (by omega) (by decide) dX2_totalOf_21 ?_
          refine lv_iadd hx hb dX2_totalOf_22 ?_
          refine lv_istore_n (lv' := [(2, .int ((tt) + (R 1 (i)))), (3, .int (nI (i))), (0, .ref (a 13)), (1, .ref (a 15))]) hx hb dX2_totalOf_23 rfl hl (by decide) rfl (fun ls hl => ?_)
          refine lv_iinc (v := nI (i + 1)) (lv' := [(3, .int (nI (i + 1))), (2, .int ((tt) + (R 1 (i)))), (0, .ref (a 13)), (1, .ref (a 15))]) hx hb dX2_totalOf_24 hl (k := 1) rfl (nI_1 _) (by decide) rfl (fun ls hl => ?_)
          refine lv_goto (tgt := 4) hx hb dX2_totalOf_27 (by decide) ?_
          exact ih4 (i + 1) ((tt) + (R 1 (i))) (by omega) (by rw [ht]; rfl) (by omega) _ _ hP hD hS _ (lv_sub hl [0, 1, 2, 3] rfl)
  exact loop4 _ (0) (0) (Nat.zero_le _) (rfl) (Nat.lt_succ_self _) _ _ hP hD hS _ (lv_sub hl [0, 1, 2, 3] rfl)
set_option maxHeartbeats 4000000 in
set_option maxRecDepth 100000 in
theorem c_X2_totalOf_2 (l : Launch) (D : va_G) (cI cZ : ClassId) (a : Nat → Nat) (sz : Nat) (R : Nat → Nat → Int32) (n : Nat) (hR : R 8 0 = nI n) (hn : n ≤ 30) : Met l yX2_totalOf wsX2_totalOf ({ frames := 0, cells := 0, slots := 0, locals := 0 } : Room) (va_Pc [.ref (a 13), .ref (a 16)] (PreW D cI cZ (wRB a cI cZ R) sz)) (va_Qi (fun (r : Int32) (u : Unit) => r = l_sum (R 2) n) (fun (u : Unit) => PostW D cI cZ (va_A (wRB a cI cZ R) sz) (wRB a cI cZ R)) (va_A (wRB a cI cZ R) sz)) 0 0 (va_A (wRB a cI cZ R) sz) := by
  refine Met.ofW (cc := cX2_totalOf) (maxL := 4) (ret := (some .int)) (by decide) rfl ?_
  intro p e s m args below meth c s₁ BB hml hv
  obtain ⟨rfl, hsz, hP, hK, hD0⟩ := hv
  have hx := BB.exec
  have hb := BB.bytes
  have hr := BB.returns
  have hts := atoms_spec (ws := wsX2_totalOf) BB.pre
  have hown : s.vm.findClass RX2 = some m.cls := findClass_of_methodNamed BB.named
  have hlocks := BB.notSynchronized
  clear BB
  subst hsz
  have hD := hD0.self (sz := s.heap.size)
  clear hD0
  generalize hAe : va_A (wRB a cI cZ R) s.heap.size = A at hD ⊢
  have hA : ∀ q : Nat, s.heap.size ≤ q → A q := fun q h => by rw [← hAe]; exact Or.inr h
  clear hAe
  have hS : va_S A s.heap s.heap [] := va_S.rf
  have hl := lv_entry ([.ref (a 13), .ref (a 16)]) (n := 4) (Nat.le_of_ble_eq_true rfl)
  rw [lg_entry_eq]
  generalize (lg_sl ([.ref (a 13), .ref (a 16)]) ++ List.replicate (4 - (lg_sl ([.ref (a 13), .ref (a 16)])).length) Slot.unset).toArray = ls at hl ⊢
  have hl : lv_has ls 4 [(0, .ref (a 13)), (1, .ref (a 16))] := hl
  generalize hHe : s.heap = H at hP
  have hS : va_S A s.heap H [] := by rw [← hHe]; exact va_S.rf
  clear hHe
  generalize hLe : ([] : List Loc) = locs at hS ⊢
  clear hLe
  refine lv_iconst (v := 0) hx hb dX2_totalOf_0 (by decide) ?_
  refine lv_istore_n (lv' := [(2, .int (0)), (0, .ref (a 13)), (1, .ref (a 16))]) hx hb dX2_totalOf_1 rfl hl (by decide) rfl (fun ls hl => ?_)
  refine lv_iconst (v := nI (0)) hx hb dX2_totalOf_2 (by decide) ?_
  refine lv_istore_n (lv' := [(3, .int (nI (0))), (2, .int (0)), (0, .ref (a 13)), (1, .ref (a 16))]) hx hb dX2_totalOf_3 rfl hl (by decide) rfl (fun ls hl => ?_)
  have loop4 : ∀ (fu : Nat) (i : Nat) (tt : Int32) (hin : i ≤ n) (ht : tt = l_sum (R 2) i) (hfu : n - i < fu) (H : Heap) (locs : List Loc) (hP : va_P D vwCl (wRB a cI cZ R) H) (hD : va_D A (wRB a cI cZ R)) (hS : va_S A s.heap H locs) (ls : Array Slot) (hl : lv_has ls 4 [(3, .int (nI (i))), (2, .int (tt)), (0, .ref (a 13)), (1, .ref (a 16))]), W p l e (headSpec wsX2_totalOf ({ frames := 0, cells := 0, slots := 0, locals := 0 } : Room)).room s m ([.ref (a 13), .ref (a 16)] : List Value).toArray below meth c H locs 0 0 (MQ below (va_Qi (fun (r : Int32) (u : Unit) => r = l_sum (R 2) n) (fun (u : Unit) => PostW D cI cZ A (wRB a cI cZ R)) A) ([.ref (a 13), .ref (a 16)] : List Value).toArray s 0 0 A) (F0 m 4 ls []) := by
    clear hP hD hS hl
    intro fu4
    induction fu4 with
    | zero => intro i tt hin ht hfu; exact absurd hfu (Nat.not_lt_zero _)
    | succ fu4 ih4 =>
      intro i tt hin ht hfu H locs hP hD hS ls hl
      refine lv_iload_n hx hb dX2_totalOf_4 rfl (lv_at hl 0 rfl) ?_
      refine lv_aload_n hx hb dX2_totalOf_5 rfl (lv_at hl 2 rfl) ?_
      refine va_get (D := D) (ci := 2) (v := .int (nI (n))) (C := RX2) (T := TX2) (N := 9) hx hb hts (fun w h => List.mem_cons_of_mem _ (List.mem_append_right _ h)) hown hK hP 0 rfl rfl 8 (by decide) (hts (.fieldLink RX2 37 "CashAllocator$ReceiptBook" "count" "I") (by decide +kernel)) (fun _ h9 => h9) (congrArg (fun z => some (Value.int z)) hR) dX2_totalOf_6 ?_
      refine lv_icmp_ge (tgt := 30) hx hb dX2_totalOf_9 (by decide) (fun c9 => ?_) (fun c9 => ?_)
      · -- 9 taken
        rw [nI_leI (by omega) (by omega)] at c9
        refine lv_iload_n hx hb dX2_totalOf_30 rfl (lv_at hl 1 rfl) ?_
        have hfin : tt = l_sum (R 2) n := by rw [ht]; congr 1; omega
        exact W.iret (v := tt) hx hb hr (fun t ht hW => ⟨⟨tt, (), rfl, hfin, by rw [ht]; exact hP, va_K.moved hW.alike hK, hD⟩, hS.F ht⟩) hS.2.2 dX2_totalOf_31
      · -- 9 on
        rw [nI_leI (by omega) (by omega)] at c9
        have c9 : i < n := by omega
        refine lv_iload_n hx hb dX2_totalOf_12 rfl (lv_at hl 0 rfl) ?_
        refine lv_aload_n hx hb dX2_totalOf_13 rfl (lv_at hl 3 rfl) ?_
        refine va_alen (v := nI (30)) hx hb hK hP 3 0 rfl rfl rfl dX2_totalOf_14 ?_
        refine lv_icmp_ge (tgt := 30) hx hb dX2_totalOf_15 (by decide) (fun c15 => ?_) (fun c15 => ?_)
        · -- 15 taken
          rw [nI_leI (by omega) (by omega)] at c15
          exact absurd c15 (by omega)
        · -- 15 on
          rw [nI_leI (by omega) (by omega)] at c15
          refine lv_iload_n hx hb dX2_totalOf_18 rfl (lv_at hl 1 rfl) ?_
          refine lv_aload_n hx hb dX2_totalOf_19 rfl (lv_at hl 3 rfl) ?_
          refine lv_iload_n hx hb dX2_totalOf_20 rfl (lv_at hl 0 rfl) ?_
          refine zald hx hb hK hP 3 (n := 30) (f := (R 2)) rfl (i) rfl (by omega) (by decide) dX2_totalOf_21 ?_
          refine lv_iadd hx hb dX2_totalOf_22 ?_
          refine lv_istore_n (lv' := [(2, .int ((tt) + (R 2 (i)))), (3, .int (nI (i))), (0, .ref (a 13)), (1, .ref (a 16))]) hx hb dX2_totalOf_23 rfl hl (by decide) rfl (fun ls hl => ?_)
          refine lv_iinc (v := nI (i + 1)) (lv' := [(3, .int (nI (i + 1))), (2, .int ((tt) + (R 2 (i)))), (0, .ref (a 13)), (1, .ref (a 16))]) hx hb dX2_totalOf_24 hl (k := 1) rfl (nI_1 _) (by decide) rfl (fun ls hl => ?_)
          refine lv_goto (tgt := 4) hx hb dX2_totalOf_27 (by decide) ?_
          exact ih4 (i + 1) ((tt) + (R 2 (i))) (by omega) (by rw [ht]; rfl) (by omega) _ _ hP hD hS _ (lv_sub hl [0, 1, 2, 3] rfl)
  exact loop4 _ (0) (0) (Nat.zero_le _) (rfl) (Nat.lt_succ_self _) _ _ hP hD hS _ (lv_sub hl [0, 1, 2, 3] rfl)
set_option maxHeartbeats 4000000 in
set_option maxRecDepth 100000 in
theorem c_X2_totalOf_3 (l : Launch) (D : va_G) (cI cZ : ClassId) (a : Nat → Nat) (sz : Nat) (R : Nat → Nat → Int32) (n : Nat) (hR : R 8 0 = nI n) (hn : n ≤ 30) : Met l yX2_totalOf wsX2_totalOf ({ frames := 0, cells := 0, slots := 0, locals := 0 } : Room) (va_Pc [.ref (a 13), .ref (a 17)] (PreW D cI cZ (wRB a cI cZ R) sz)) (va_Qi (fun (r : Int32) (u : Unit) => r = l_sum (R 3) n) (fun (u : Unit) => PostW D cI cZ (va_A (wRB a cI cZ R) sz) (wRB a cI cZ R)) (va_A (wRB a cI cZ R) sz)) 0 0 (va_A (wRB a cI cZ R) sz) := by
  refine Met.ofW (cc := cX2_totalOf) (maxL := 4) (ret := (some .int)) (by decide) rfl ?_
  intro p e s m args below meth c s₁ BB hml hv
  obtain ⟨rfl, hsz, hP, hK, hD0⟩ := hv
  have hx := BB.exec
  have hb := BB.bytes
  have hr := BB.returns
  have hts := atoms_spec (ws := wsX2_totalOf) BB.pre
  have hown : s.vm.findClass RX2 = some m.cls := findClass_of_methodNamed BB.named
  have hlocks := BB.notSynchronized
  clear BB
  subst hsz
  have hD := hD0.self (sz := s.heap.size)
  clear hD0
  generalize hAe : va_A (wRB a cI cZ R) s.heap.size = A at hD ⊢
  have hA : ∀ q : Nat, s.heap.size ≤ q → A q := fun q h => by rw [← hAe]; exact Or.inr h
  clear hAe
  have hS : va_S A s.heap s.heap [] := va_S.rf
  have hl := lv_entry ([.ref (a 13), .ref (a 17)]) (n := 4) (Nat.le_of_ble_eq_true rfl)
  rw [lg_entry_eq]
  generalize (lg_sl ([.ref (a 13), .ref (a 17)]) ++ List.replicate (4 - (lg_sl ([.ref (a 13), .ref (a 17)])).length) Slot.unset).toArray = ls at hl ⊢
  have hl : lv_has ls 4 [(0, .ref (a 13)), (1, .ref (a 17))] := hl
  generalize hHe : s.heap = H at hP
  have hS : va_S A s.heap H [] := by rw [← hHe]; exact va_S.rf
  clear hHe
  generalize hLe : ([] : List Loc) = locs at hS ⊢
  clear hLe
  refine lv_iconst (v := 0) hx hb dX2_totalOf_0 (by decide) ?_
  refine lv_istore_n (lv' := [(2, .int (0)), (0, .ref (a 13)), (1, .ref (a 17))]) hx hb dX2_totalOf_1 rfl hl (by decide) rfl (fun ls hl => ?_)
  refine lv_iconst (v := nI (0)) hx hb dX2_totalOf_2 (by decide) ?_
  refine lv_istore_n (lv' := [(3, .int (nI (0))), (2, .int (0)), (0, .ref (a 13)), (1, .ref (a 17))]) hx hb dX2_totalOf_3 rfl hl (by decide) rfl (fun ls hl => ?_)
  have loop4 : ∀ (fu : Nat) (i : Nat) (tt : Int32) (hin : i ≤ n) (ht : tt = l_sum (R 3) i) (hfu : n - i < fu) (H : Heap) (locs : List Loc) (hP : va_P D vwCl (wRB a cI cZ R) H) (hD : va_D A (wRB a cI cZ R)) (hS : va_S A s.heap H locs) (ls : Array Slot) (hl : lv_has ls 4 [(3, .int (nI (i))), (2, .int (tt)), (0, .ref (a 13)), (1, .ref (a 17))]), W p l e (headSpec wsX2_totalOf ({ frames := 0, cells := 0, slots := 0, locals := 0 } : Room)).room s m ([.ref (a 13), .ref (a 17)] : List Value).toArray below meth c H locs 0 0 (MQ below (va_Qi (fun (r : Int32) (u : Unit) => r = l_sum (R 3) n) (fun (u : Unit) => PostW D cI cZ A (wRB a cI cZ R)) A) ([.ref (a 13), .ref (a 17)] : List Value).toArray s 0 0 A) (F0 m 4 ls []) := by
    clear hP hD hS hl
    intro fu4
    induction fu4 with
    | zero => intro i tt hin ht hfu; exact absurd hfu (Nat.not_lt_zero _)
    | succ fu4 ih4 =>
      intro i tt hin ht hfu H locs hP hD hS ls hl
      refine lv_iload_n hx hb dX2_totalOf_4 rfl (lv_at hl 0 rfl) ?_
      refine lv_aload_n hx hb dX2_totalOf_5 rfl (lv_at hl 2 rfl) ?_
      refine va_get (D := D) (ci := 2) (v := .int (nI (n))) (C := RX2) (T := TX2) (N := 9) hx hb hts (fun w h => List.mem_cons_of_mem _ (List.mem_append_right _ h)) hown hK hP 0 rfl rfl 8 (by decide) (hts (.fieldLink RX2 37 "CashAllocator$ReceiptBook" "count" "I") (by decide +kernel)) (fun _ h9 => h9) (congrArg (fun z => some (Value.int z)) hR) dX2_totalOf_6 ?_
      refine lv_icmp_ge (tgt := 30) hx hb dX2_totalOf_9 (by decide) (fun c9 => ?_) (fun c9 => ?_)
      · -- 9 taken
        rw [nI_leI (by omega) (by omega)] at c9
        refine lv_iload_n hx hb dX2_totalOf_30 rfl (lv_at hl 1 rfl) ?_
        have hfin : tt = l_sum (R 3) n := by rw [ht]; congr 1; omega
        exact W.iret (v := tt) hx hb hr (fun t ht hW => ⟨⟨tt, (), rfl, hfin, by rw [ht]; exact hP, va_K.moved hW.alike hK, hD⟩, hS.F ht⟩) hS.2.2 dX2_totalOf_31
      · -- 9 on
        rw [nI_leI (by omega) (by omega)] at c9
        have c9 : i < n := by omega
        refine lv_iload_n hx hb dX2_totalOf_12 rfl (lv_at hl 0 rfl) ?_
        refine lv_aload_n hx hb dX2_totalOf_13 rfl (lv_at hl 3 rfl) ?_
        refine va_alen (v := nI (30)) hx hb hK hP 4 0 rfl rfl rfl dX2_totalOf_14 ?_
        refine lv_icmp_ge (tgt := 30) hx hb dX2_totalOf_15 (by decide) (fun c15 => ?_) (fun c15 => ?_)
        · -- 15 taken
          rw [nI_leI (by omega) (by omega)] at c15
          exact absurd c15 (by omega)
        · -- 15 on
          rw [nI_leI (by omega) (by omega)] at c15
          refine lv_iload_n hx hb dX2_totalOf_18 rfl (lv_at hl 1 rfl) ?_
          refine lv_aload_n hx hb dX2_totalOf_19 rfl (lv_at hl 3 rfl) ?_
          refine lv_iload_n hx hb dX2_totalOf_20 rfl (lv_at hl 0 rfl) ?_
          refine zald hx hb hK hP 4 (n := 30) (f := (R 3)) rfl (i) rfl (by omega) (by decide) dX2_totalOf_21 ?_
          refine lv_iadd hx hb dX2_totalOf_22 ?_
          refine lv_istore_n (lv' := [(2, .int ((tt) + (R 3 (i)))), (3, .int (nI (i))), (0, .ref (a 13)), (1, .ref (a 17))]) hx hb dX2_totalOf_23 rfl hl (by decide) rfl (fun ls hl => ?_)
          refine lv_iinc (v := nI (i + 1)) (lv' := [(3, .int (nI (i + 1))), (2, .int ((tt) + (R 3 (i)))), (0, .ref (a 13)), (1, .ref (a 17))]) hx hb dX2_totalOf_24 hl (k := 1) rfl (nI_1 _) (by decide) rfl (fun ls hl => ?_)
          refine lv_goto (tgt := 4) hx hb dX2_totalOf_27 (by decide) ?_
          exact ih4 (i + 1) ((tt) + (R 3 (i))) (by omega) (by rw [ht]; rfl) (by omega) _ _ hP hD hS _ (lv_sub hl [0, 1, 2, 3] rfl)
  exact loop4 _ (0) (0) (Nat.zero_le _) (rfl) (Nat.lt_succ_self _) _ _ hP hD hS _ (lv_sub hl [0, 1, 2, 3] rfl)
set_option maxHeartbeats 4000000 in
set_option maxRecDepth 100000 in
theorem c_X2_totalOf_4 (l : Launch) (D : va_G) (cI cZ : ClassId) (a : Nat → Nat) (sz : Nat) (R : Nat → Nat → Int32) (n : Nat) (hR : R 8 0 = nI n) (hn : n ≤ 30) : Met l yX2_totalOf wsX2_totalOf ({ frames := 0, cells := 0, slots := 0, locals := 0 } : Room) (va_Pc [.ref (a 13), .ref (a 18)] (PreW D cI cZ (wRB a cI cZ R) sz)) (va_Qi (fun (r : Int32) (u : Unit) => r = l_sum (R 4) n) (fun (u : Unit) => PostW D cI cZ (va_A (wRB a cI cZ R) sz) (wRB a cI cZ R)) (va_A (wRB a cI cZ R) sz)) 0 0 (va_A (wRB a cI cZ R) sz) := by
  refine Met.ofW (cc := cX2_totalOf) (maxL := 4) (ret := (some .int)) (by decide) rfl ?_
  intro p e s m args below meth c s₁ BB hml hv
  obtain ⟨rfl, hsz, hP, hK, hD0⟩ := hv
  have hx := BB.exec
  have hb := BB.bytes
  have hr := BB.returns
  have hts := atoms_spec (ws := wsX2_totalOf) BB.pre
  have hown : s.vm.findClass RX2 = some m.cls := findClass_of_methodNamed BB.named
  have hlocks := BB.notSynchronized
  clear BB
  subst hsz
  have hD := hD0.self (sz := s.heap.size)
  clear hD0
  generalize hAe : va_A (wRB a cI cZ R) s.heap.size = A at hD ⊢
  have hA : ∀ q : Nat, s.heap.size ≤ q → A q := fun q h => by rw [← hAe]; exact Or.inr h
  clear hAe
  have hS : va_S A s.heap s.heap [] := va_S.rf
  have hl := lv_entry ([.ref (a 13), .ref (a 18)]) (n := 4) (Nat.le_of_ble_eq_true rfl)
  rw [lg_entry_eq]
  generalize (lg_sl ([.ref (a 13), .ref (a 18)]) ++ List.replicate (4 - (lg_sl ([.ref (a 13), .ref (a 18)])).length) Slot.unset).toArray = ls at hl ⊢
  have hl : lv_has ls 4 [(0, .ref (a 13)), (1, .ref (a 18))] := hl
  generalize hHe : s.heap = H at hP
  have hS : va_S A s.heap H [] := by rw [← hHe]; exact va_S.rf
  clear hHe
  generalize hLe : ([] : List Loc) = locs at hS ⊢
  clear hLe
  refine lv_iconst (v := 0) hx hb dX2_totalOf_0 (by decide) ?_
  refine lv_istore_n (lv' := [(2, .int (0)), (0, .ref (a 13)), (1, .ref (a 18))]) hx hb dX2_totalOf_1 rfl hl (by decide) rfl (fun ls hl => ?_)
  refine lv_iconst (v := nI (0)) hx hb dX2_totalOf_2 (by decide) ?_
  refine lv_istore_n (lv' := [(3, .int (nI (0))), (2, .int (0)), (0, .ref (a 13)), (1, .ref (a 18))]) hx hb dX2_totalOf_3 rfl hl (by decide) rfl (fun ls hl => ?_)
  have loop4 : ∀ (fu : Nat) (i : Nat) (tt : Int32) (hin : i ≤ n) (ht : tt = l_sum (R 4) i) (hfu : n - i < fu) (H : Heap) (locs : List Loc) (hP : va_P D vwCl (wRB a cI cZ R) H) (hD : va_D A (wRB a cI cZ R)) (hS : va_S A s.heap H locs) (ls : Array Slot) (hl : lv_has ls 4 [(3, .int (nI (i))), (2, .int (tt)), (0, .ref (a 13)), (1, .ref (a 18))]), W p l e (headSpec wsX2_totalOf ({ frames := 0, cells := 0, slots := 0, locals := 0 } : Room)).room s m ([.ref (a 13), .ref (a 18)] : List Value).toArray below meth c H locs 0 0 (MQ below (va_Qi (fun (r : Int32) (u : Unit) => r = l_sum (R 4) n) (fun (u : Unit) => PostW D cI cZ A (wRB a cI cZ R)) A) ([.ref (a 13), .ref (a 18)] : List Value).toArray s 0 0 A) (F0 m 4 ls []) := by
    clear hP hD hS hl
    intro fu4
    induction fu4 with
    | zero => intro i tt hin ht hfu; exact absurd hfu (Nat.not_lt_zero _)
    | succ fu4 ih4 =>
      intro i tt hin ht hfu H locs hP hD hS ls hl
      refine lv_iload_n hx hb dX2_totalOf_4 rfl (lv_at hl 0 rfl) ?_
      refine lv_aload_n hx hb dX2_totalOf_5 rfl (lv_at hl 2 rfl) ?_
      refine va_get (D := D) (ci := 2) (v := .int (nI (n))) (C := RX2) (T := TX2) (N := 9) hx hb hts (fun w h => List.mem_cons_of_mem _ (List.mem_append_right _ h)) hown hK hP 0 rfl rfl 8 (by decide) (hts (.fieldLink RX2 37 "CashAllocator$ReceiptBook" "count" "I") (by decide +kernel)) (fun _ h9 => h9) (congrArg (fun z => some (Value.int z)) hR) dX2_totalOf_6 ?_
      refine lv_icmp_ge (tgt := 30) hx hb dX2_totalOf_9 (by decide) (fun c9 => ?_) (fun c9 => ?_)
      · -- 9 taken
        rw [nI_leI (by omega) (by omega)] at c9
        refine lv_iload_n hx hb dX2_totalOf_30 rfl (lv_at hl 1 rfl) ?_
        have hfin : tt = l_sum (R 4) n := by rw [ht]; congr 1; omega
        exact W.iret (v := tt) hx hb hr (fun t ht hW => ⟨⟨tt, (), rfl, hfin, by rw [ht]; exact hP, va_K.moved hW.alike hK, hD⟩, hS.F ht⟩) hS.2.2 dX2_totalOf_31
      · -- 9 on
        rw [nI_leI (by omega) (by omega)] at c9
        have c9 : i < n := by omega
        refine lv_iload_n hx hb dX2_totalOf_12 rfl (lv_at hl 0 rfl) ?_
        refine lv_aload_n hx hb dX2_totalOf_13 rfl (lv_at hl 3 rfl) ?_
        refine va_alen (v := nI (30)) hx hb hK hP 5 0 rfl rfl rfl dX2_totalOf_14 ?_
        refine lv_icmp_ge (tgt := 30) hx hb dX2_totalOf_15 (by decide) (fun c15 => ?_) (fun c15 => ?_)
        · -- 15 taken
          rw [nI_leI (by omega) (by omega)] at c15
          exact absurd c15 (by omega)
        · -- 15 on
          rw [nI_leI (by omega) (by omega)] at c15
          refine lv_iload_n hx hb dX2_totalOf_18 rfl (lv_at hl 1 rfl) ?_
          refine lv_aload_n hx hb dX2_totalOf_19 rfl (lv_at hl 3 rfl) ?_
          refine lv_iload_n hx hb dX2_totalOf_20 rfl (lv_at hl 0 rfl) ?_
          refine zald hx hb hK hP 5 (n := 30) (f := (R 4)) rfl (i) rfl (by omega) (by decide) dX2_totalOf_21 ?_
          refine lv_iadd hx hb dX2_totalOf_22 ?_
          refine lv_istore_n (lv' := [(2, .int ((tt) + (R 4 (i)))), (3, .int (nI (i))), (0, .ref (a 13)), (1, .ref (a 18))]) hx hb dX2_totalOf_23 rfl hl (by decide) rfl (fun ls hl => ?_)
          refine lv_iinc (v := nI (i + 1)) (lv' := [(3, .int (nI (i + 1))), (2, .int ((tt) + (R 4 (i)))), (0, .ref (a 13)), (1, .ref (a 18))]) hx hb dX2_totalOf_24 hl (k := 1) rfl (nI_1 _) (by decide) rfl (fun ls hl => ?_)
          refine lv_goto (tgt := 4) hx hb dX2_totalOf_27 (by decide) ?_
          exact ih4 (i + 1) ((tt) + (R 4 (i))) (by omega) (by rw [ht]; rfl) (by omega) _ _ hP hD hS _ (lv_sub hl [0, 1, 2, 3] rfl)
  exact loop4 _ (0) (0) (Nat.zero_le _) (rfl) (Nat.lt_succ_self _) _ _ hP hD hS _ (lv_sub hl [0, 1, 2, 3] rfl)
set_option maxHeartbeats 4000000 in
set_option maxRecDepth 100000 in
theorem c_X2_bouncedTotal (l : Launch) (D : va_G) (cI cZ : ClassId) (a : Nat → Nat) (sz : Nat) (R : Nat → Nat → Int32) (n : Nat) (hR : R 8 0 = nI n) (hn : n ≤ 30) : Met l yX2_bouncedTotal wsX2_bouncedTotal ({ frames := 0, cells := 0, slots := 0, locals := 0 } : Room) (va_Pc [.ref (a 13)] (PreW D cI cZ (wRB a cI cZ R) sz)) (va_Qi (fun (r : Int32) (u : Unit) => r = bsm R n) (fun (u : Unit) => PostW D cI cZ (va_A (wRB a cI cZ R) sz) (wRB a cI cZ R)) (va_A (wRB a cI cZ R) sz)) 0 0 (va_A (wRB a cI cZ R) sz) := by
  refine Met.ofW (cc := cX2_bouncedTotal) (maxL := 3) (ret := (some .int)) (by decide) rfl ?_
  intro p e s m args below meth c s₁ BB hml hv
  obtain ⟨rfl, hsz, hP, hK, hD0⟩ := hv
  have hx := BB.exec
  have hb := BB.bytes
  have hr := BB.returns
  have hts := atoms_spec (ws := wsX2_bouncedTotal) BB.pre
  have hown : s.vm.findClass RX2 = some m.cls := findClass_of_methodNamed BB.named
  have hlocks := BB.notSynchronized
  clear BB
  subst hsz
  have hD := hD0.self (sz := s.heap.size)
  clear hD0
  generalize hAe : va_A (wRB a cI cZ R) s.heap.size = A at hD ⊢
  have hA : ∀ q : Nat, s.heap.size ≤ q → A q := fun q h => by rw [← hAe]; exact Or.inr h
  clear hAe
  have hS : va_S A s.heap s.heap [] := va_S.rf
  have hl := lv_entry ([.ref (a 13)]) (n := 3) (Nat.le_of_ble_eq_true rfl)
  rw [lg_entry_eq]
  generalize (lg_sl ([.ref (a 13)]) ++ List.replicate (3 - (lg_sl ([.ref (a 13)])).length) Slot.unset).toArray = ls at hl ⊢
  have hl : lv_has ls 3 [(0, .ref (a 13))] := hl
  generalize hHe : s.heap = H at hP
  have hS : va_S A s.heap H [] := by rw [← hHe]; exact va_S.rf
  clear hHe
  generalize hLe : ([] : List Loc) = locs at hS ⊢
  clear hLe
  refine lv_iconst (v := 0) hx hb dX2_bouncedTotal_0 (by decide) ?_
  refine lv_istore_n (lv' := [(1, .int (0)), (0, .ref (a 13))]) hx hb dX2_bouncedTotal_1 rfl hl (by decide) rfl (fun ls hl => ?_)
  refine lv_iconst (v := nI (0)) hx hb dX2_bouncedTotal_2 (by decide) ?_
  refine lv_istore_n (lv' := [(2, .int (nI (0))), (1, .int (0)), (0, .ref (a 13))]) hx hb dX2_bouncedTotal_3 rfl hl (by decide) rfl (fun ls hl => ?_)
  have loop4 : ∀ (fu : Nat) (i : Nat) (tt : Int32) (hin : i ≤ n) (ht : tt = bsm R i) (hfu : n - i < fu) (H : Heap) (locs : List Loc) (hP : va_P D vwCl (wRB a cI cZ R) H) (hD : va_D A (wRB a cI cZ R)) (hS : va_S A s.heap H locs) (ls : Array Slot) (hl : lv_has ls 3 [(2, .int (nI (i))), (1, .int (tt)), (0, .ref (a 13))]), W p l e (headSpec wsX2_bouncedTotal ({ frames := 0, cells := 0, slots := 0, locals := 0 } : Room)).room s m ([.ref (a 13)] : List Value).toArray below meth c H locs 0 0 (MQ below (va_Qi (fun (r : Int32) (u : Unit) => r = bsm R n) (fun (u : Unit) => PostW D cI cZ A (wRB a cI cZ R)) A) ([.ref (a 13)] : List Value).toArray s 0 0 A) (F0 m 4 ls []) := by
    clear hP hD hS hl
    intro fu4
    induction fu4 with
    | zero => intro i tt hin ht hfu; exact absurd hfu (Nat.not_lt_zero _)
    | succ fu4 ih4 =>
      intro i tt hin ht hfu H locs hP hD hS ls hl
      refine lv_iload_n hx hb dX2_bouncedTotal_4 rfl (lv_at hl 0 rfl) ?_
      refine lv_aload_n hx hb dX2_bouncedTotal_5 rfl (lv_at hl 2 rfl) ?_
      refine va_get (D := D) (ci := 2) (v := .int (nI (n))) (C := RX2) (T := TX2) (N := 9) hx hb hts (fun w h => List.mem_cons_of_mem _ (List.mem_append_right _ h)) hown hK hP 0 rfl rfl 8 (by decide) (hts (.fieldLink RX2 37 "CashAllocator$ReceiptBook" "count" "I") (by decide +kernel)) (fun _ h9 => h9) (congrArg (fun z => some (Value.int z)) hR) dX2_bouncedTotal_6 ?_
      refine lv_icmp_ge (tgt := 36) hx hb dX2_bouncedTotal_9 (by decide) (fun c9 => ?_) (fun c9 => ?_)
      · -- 9 taken
        rw [nI_leI (by omega) (by omega)] at c9
        refine lv_iload_n hx hb dX2_bouncedTotal_36 rfl (lv_at hl 1 rfl) ?_
        have hfin : tt = bsm R n := by rw [ht]; congr 1; omega
        exact W.iret (v := tt) hx hb hr (fun t ht hW => ⟨⟨tt, (), rfl, hfin, by rw [ht]; exact hP, va_K.moved hW.alike hK, hD⟩, hS.F ht⟩) hS.2.2 dX2_bouncedTotal_37
      · -- 9 on
        rw [nI_leI (by omega) (by omega)] at c9
        have c9 : i < n := by omega
        refine lv_aload_n hx hb dX2_bouncedTotal_12 rfl (lv_at hl 2 rfl) ?_
        refine va_get (D := D) (ci := 2) (v := .ref (a 19)) (C := RX2) (T := TX2) (N := 9) hx hb hts (fun w h => List.mem_cons_of_mem _ (List.mem_append_right _ h)) hown hK hP 0 rfl rfl 5 (by decide) (hts (.fieldLink RX2 27 "CashAllocator$ReceiptBook" "isBounced" "[Z") (by decide +kernel)) (fun _ h9 => h9) rfl dX2_bouncedTotal_13 ?_
        refine lv_iload_n hx hb dX2_bouncedTotal_16 rfl (lv_at hl 0 rfl) ?_
        refine zbld hx hb hK hP 6 (n := 30) (f := (R 5)) rfl (i) rfl (by omega) (by decide) dX2_bouncedTotal_17 ?_
        refine lv_if_eq (tgt := 30) hx hb dX2_bouncedTotal_18 (by decide) (fun c18 => ?_) (fun c18 => ?_)
        · -- 18 taken
          refine lv_iinc (v := nI (i + 1)) (lv' := [(2, .int (nI (i + 1))), (1, .int (tt)), (0, .ref (a 13))]) hx hb dX2_bouncedTotal_30 hl (k := 0) rfl (nI_1 _) (by decide) rfl (fun ls hl => ?_)
          refine lv_goto (tgt := 4) hx hb dX2_bouncedTotal_33 (by decide) ?_
          exact ih4 (i + 1) (tt) (by omega) (by rw [bsm, ht]; first | rw [if_pos c18] | rw [if_neg c18]) (by omega) _ _ hP hD hS _ (lv_sub hl [0, 1, 2] rfl)
        · -- 18 on
          refine lv_iload_n hx hb dX2_bouncedTotal_21 rfl (lv_at hl 1 rfl) ?_
          refine lv_aload_n hx hb dX2_bouncedTotal_22 rfl (lv_at hl 2 rfl) ?_
          refine va_get (D := D) (ci := 2) (v := .ref (a 15)) (C := RX2) (T := TX2) (N := 9) hx hb hts (fun w h => List.mem_cons_of_mem _ (List.mem_append_right _ h)) hown hK hP 0 rfl rfl 1 (by decide) (hts (.fieldLink RX2 15 "CashAllocator$ReceiptBook" "amount" "[I") (by decide +kernel)) (fun _ h9 => h9) rfl dX2_bouncedTotal_23 ?_
          refine lv_iload_n hx hb dX2_bouncedTotal_26 rfl (lv_at hl 0 rfl) ?_
          refine zald hx hb hK hP 2 (n := 30) (f := (R 1)) rfl (i) rfl (by omega) (by decide) dX2_bouncedTotal_27 ?_
          refine lv_iadd hx hb dX2_bouncedTotal_28 ?_
          refine lv_istore_n (lv' := [(1, .int ((tt) + (R 1 (i)))), (2, .int (nI (i))), (0, .ref (a 13))]) hx hb dX2_bouncedTotal_29 rfl hl (by decide) rfl (fun ls hl => ?_)
          refine lv_iinc (v := nI (i + 1)) (lv' := [(2, .int (nI (i + 1))), (1, .int ((tt) + (R 1 (i)))), (0, .ref (a 13))]) hx hb dX2_bouncedTotal_30 hl (k := 1) rfl (nI_1 _) (by decide) rfl (fun ls hl => ?_)
          refine lv_goto (tgt := 4) hx hb dX2_bouncedTotal_33 (by decide) ?_
          exact ih4 (i + 1) ((tt) + (R 1 (i))) (by omega) (by rw [bsm, ht]; first | rw [if_pos c18] | rw [if_neg c18]) (by omega) _ _ hP hD hS _ (lv_sub hl [0, 1, 2] rfl)
  exact loop4 _ (0) (0) (Nat.zero_le _) (rfl) (Nat.lt_succ_self _) _ _ hP hD hS _ (lv_sub hl [0, 1, 2] rfl)
end
section
theorem dX1_init_0 : decode cX1_init 0 = .ok (.aload_n 0, 1) := by decide +kernel
theorem dX1_init_1 : decode cX1_init 1 = .ok (.invokespecial 3, 3) := by decide +kernel
theorem dX1_init_4 : decode cX1_init 4 = .ok (.aload_n 0, 1) := by decide +kernel
theorem dX1_init_5 : decode cX1_init 5 = .ok (.bipush 40, 2) := by decide +kernel
theorem dX1_init_7 : decode cX1_init 7 = .ok (.newarray .int, 2) := by decide +kernel
theorem dX1_init_9 : decode cX1_init 9 = .ok (.putfield 9, 3) := by decide +kernel
theorem dX1_init_12 : decode cX1_init 12 = .ok (.aload_n 0, 1) := by decide +kernel
theorem dX1_init_13 : decode cX1_init 13 = .ok (.bipush 40, 2) := by decide +kernel
theorem dX1_init_15 : decode cX1_init 15 = .ok (.newarray .int, 2) := by decide +kernel
theorem dX1_init_17 : decode cX1_init 17 = .ok (.putfield 15, 3) := by decide +kernel
theorem dX1_init_20 : decode cX1_init 20 = .ok (.aload_n 0, 1) := by decide +kernel
theorem dX1_init_21 : decode cX1_init 21 = .ok (.iconst 3, 1) := by decide +kernel
theorem dX1_init_22 : decode cX1_init 22 = .ok (.newarray .int, 2) := by decide +kernel
theorem dX1_init_24 : decode cX1_init 24 = .ok (.putfield 18, 3) := by decide +kernel
theorem dX1_init_27 : decode cX1_init 27 = .ok (.return_, 1) := by decide +kernel
theorem dX1_clear_0 : decode cX1_clear 0 = .ok (.aload_n 0, 1) := by decide +kernel
theorem dX1_clear_1 : decode cX1_clear 1 = .ok (.iconst 0, 1) := by decide +kernel
theorem dX1_clear_2 : decode cX1_clear 2 = .ok (.putfield 21, 3) := by decide +kernel
theorem dX1_clear_5 : decode cX1_clear 5 = .ok (.aload_n 0, 1) := by decide +kernel
theorem dX1_clear_6 : decode cX1_clear 6 = .ok (.getfield 18, 3) := by decide +kernel
theorem dX1_clear_9 : decode cX1_clear 9 = .ok (.iconst 0, 1) := by decide +kernel
theorem dX1_clear_10 : decode cX1_clear 10 = .ok (.iconst (-1), 1) := by decide +kernel
theorem dX1_clear_11 : decode cX1_clear 11 = .ok (.iastore, 1) := by decide +kernel
theorem dX1_clear_12 : decode cX1_clear 12 = .ok (.aload_n 0, 1) := by decide +kernel
theorem dX1_clear_13 : decode cX1_clear 13 = .ok (.getfield 18, 3) := by decide +kernel
theorem dX1_clear_16 : decode cX1_clear 16 = .ok (.iconst 1, 1) := by decide +kernel
theorem dX1_clear_17 : decode cX1_clear 17 = .ok (.iconst (-1), 1) := by decide +kernel
theorem dX1_clear_18 : decode cX1_clear 18 = .ok (.iastore, 1) := by decide +kernel
theorem dX1_clear_19 : decode cX1_clear 19 = .ok (.aload_n 0, 1) := by decide +kernel
theorem dX1_clear_20 : decode cX1_clear 20 = .ok (.getfield 18, 3) := by decide +kernel
theorem dX1_clear_23 : decode cX1_clear 23 = .ok (.iconst 2, 1) := by decide +kernel
theorem dX1_clear_24 : decode cX1_clear 24 = .ok (.iconst (-1), 1) := by decide +kernel
theorem dX1_clear_25 : decode cX1_clear 25 = .ok (.iastore, 1) := by decide +kernel
theorem dX1_clear_26 : decode cX1_clear 26 = .ok (.return_, 1) := by decide +kernel
theorem dX1_offer_0 : decode cX1_offer 0 = .ok (.aload_n 0, 1) := by decide +kernel
theorem dX1_offer_1 : decode cX1_offer 1 = .ok (.getfield 21, 3) := by decide +kernel
theorem dX1_offer_4 : decode cX1_offer 4 = .ok (.bipush 40, 2) := by decide +kernel
theorem dX1_offer_6 : decode cX1_offer 6 = .ok (.if_icmp .ge 33, 3) := by decide +kernel
theorem dX1_offer_9 : decode cX1_offer 9 = .ok (.aload_n 0, 1) := by decide +kernel
theorem dX1_offer_10 : decode cX1_offer 10 = .ok (.getfield 9, 3) := by decide +kernel
theorem dX1_offer_13 : decode cX1_offer 13 = .ok (.aload_n 0, 1) := by decide +kernel
theorem dX1_offer_14 : decode cX1_offer 14 = .ok (.getfield 21, 3) := by decide +kernel
theorem dX1_offer_17 : decode cX1_offer 17 = .ok (.iload_n 1, 1) := by decide +kernel
theorem dX1_offer_18 : decode cX1_offer 18 = .ok (.iastore, 1) := by decide +kernel
theorem dX1_offer_19 : decode cX1_offer 19 = .ok (.aload_n 0, 1) := by decide +kernel
theorem dX1_offer_20 : decode cX1_offer 20 = .ok (.getfield 15, 3) := by decide +kernel
theorem dX1_offer_23 : decode cX1_offer 23 = .ok (.aload_n 0, 1) := by decide +kernel
theorem dX1_offer_24 : decode cX1_offer 24 = .ok (.getfield 21, 3) := by decide +kernel
theorem dX1_offer_27 : decode cX1_offer 27 = .ok (.iload_n 2, 1) := by decide +kernel
theorem dX1_offer_28 : decode cX1_offer 28 = .ok (.iastore, 1) := by decide +kernel
theorem dX1_offer_29 : decode cX1_offer 29 = .ok (.aload_n 0, 1) := by decide +kernel
theorem dX1_offer_30 : decode cX1_offer 30 = .ok (.dup, 1) := by decide +kernel
theorem dX1_offer_31 : decode cX1_offer 31 = .ok (.getfield 21, 3) := by decide +kernel
theorem dX1_offer_34 : decode cX1_offer 34 = .ok (.iconst 1, 1) := by decide +kernel
theorem dX1_offer_35 : decode cX1_offer 35 = .ok (.iadd, 1) := by decide +kernel
theorem dX1_offer_36 : decode cX1_offer 36 = .ok (.putfield 21, 3) := by decide +kernel
theorem dX1_offer_39 : decode cX1_offer 39 = .ok (.return_, 1) := by decide +kernel
theorem dX1_choose_0 : decode cX1_choose 0 = .ok (.aload_n 0, 1) := by decide +kernel
theorem dX1_choose_1 : decode cX1_choose 1 = .ok (.iload_n 1, 1) := by decide +kernel
theorem dX1_choose_2 : decode cX1_choose 2 = .ok (.invokevirtual 25, 3) := by decide +kernel
theorem dX1_choose_5 : decode cX1_choose 5 = .ok (.ifCond .ne 16, 3) := by decide +kernel
theorem dX1_choose_8 : decode cX1_choose 8 = .ok (.aload_n 0, 1) := by decide +kernel
theorem dX1_choose_9 : decode cX1_choose 9 = .ok (.iload_n 1, 1) := by decide +kernel
theorem dX1_choose_10 : decode cX1_choose 10 = .ok (.invokevirtual 29, 3) := by decide +kernel
theorem dX1_choose_13 : decode cX1_choose 13 = .ok (.ifCond .ne 8, 3) := by decide +kernel
theorem dX1_choose_16 : decode cX1_choose 16 = .ok (.aload_n 0, 1) := by decide +kernel
theorem dX1_choose_17 : decode cX1_choose 17 = .ok (.iload_n 1, 1) := by decide +kernel
theorem dX1_choose_18 : decode cX1_choose 18 = .ok (.invokevirtual 32, 3) := by decide +kernel
theorem dX1_choose_21 : decode cX1_choose 21 = .ok (.return_, 1) := by decide +kernel
theorem dX1_chooseOne_0 : decode cX1_chooseOne 0 = .ok (.aload_n 0, 1) := by decide +kernel
theorem dX1_chooseOne_1 : decode cX1_chooseOne 1 = .ok (.iload_n 1, 1) := by decide +kernel
theorem dX1_chooseOne_2 : decode cX1_chooseOne 2 = .ok (.iconst 0, 1) := by decide +kernel
theorem dX1_chooseOne_3 : decode cX1_chooseOne 3 = .ok (.invokevirtual 36, 3) := by decide +kernel
theorem dX1_chooseOne_6 : decode cX1_chooseOne 6 = .ok (.istore_n 2, 1) := by decide +kernel
theorem dX1_chooseOne_7 : decode cX1_chooseOne 7 = .ok (.iload_n 2, 1) := by decide +kernel
theorem dX1_chooseOne_8 : decode cX1_chooseOne 8 = .ok (.iconst (-1), 1) := by decide +kernel
theorem dX1_chooseOne_9 : decode cX1_chooseOne 9 = .ok (.if_icmp .ne 5, 3) := by decide +kernel
theorem dX1_chooseOne_12 : decode cX1_chooseOne 12 = .ok (.iconst 0, 1) := by decide +kernel
theorem dX1_chooseOne_13 : decode cX1_chooseOne 13 = .ok (.ireturn, 1) := by decide +kernel
theorem dX1_chooseOne_14 : decode cX1_chooseOne 14 = .ok (.aload_n 0, 1) := by decide +kernel
theorem dX1_chooseOne_15 : decode cX1_chooseOne 15 = .ok (.getfield 18, 3) := by decide +kernel
theorem dX1_chooseOne_18 : decode cX1_chooseOne 18 = .ok (.iconst 0, 1) := by decide +kernel
theorem dX1_chooseOne_19 : decode cX1_chooseOne 19 = .ok (.aload_n 0, 1) := by decide +kernel
theorem dX1_chooseOne_20 : decode cX1_chooseOne 20 = .ok (.getfield 9, 3) := by decide +kernel
theorem dX1_chooseOne_23 : decode cX1_chooseOne 23 = .ok (.iload_n 2, 1) := by decide +kernel
theorem dX1_chooseOne_24 : decode cX1_chooseOne 24 = .ok (.iaload, 1) := by decide +kernel
theorem dX1_chooseOne_25 : decode cX1_chooseOne 25 = .ok (.iastore, 1) := by decide +kernel
theorem dX1_chooseOne_26 : decode cX1_chooseOne 26 = .ok (.iconst 1, 1) := by decide +kernel
theorem dX1_chooseOne_27 : decode cX1_chooseOne 27 = .ok (.ireturn, 1) := by decide +kernel
theorem dX1_chooseTwo_0 : decode cX1_chooseTwo 0 = .ok (.iconst 0, 1) := by decide +kernel
theorem dX1_chooseTwo_1 : decode cX1_chooseTwo 1 = .ok (.istore_n 2, 1) := by decide +kernel
theorem dX1_chooseTwo_2 : decode cX1_chooseTwo 2 = .ok (.iload_n 2, 1) := by decide +kernel
theorem dX1_chooseTwo_3 : decode cX1_chooseTwo 3 = .ok (.aload_n 0, 1) := by decide +kernel
theorem dX1_chooseTwo_4 : decode cX1_chooseTwo 4 = .ok (.getfield 21, 3) := by decide +kernel
theorem dX1_chooseTwo_7 : decode cX1_chooseTwo 7 = .ok (.if_icmp .ge 56, 3) := by decide +kernel
theorem dX1_chooseTwo_10 : decode cX1_chooseTwo 10 = .ok (.aload_n 0, 1) := by decide +kernel
theorem dX1_chooseTwo_11 : decode cX1_chooseTwo 11 = .ok (.iload_n 1, 1) := by decide +kernel
theorem dX1_chooseTwo_12 : decode cX1_chooseTwo 12 = .ok (.aload_n 0, 1) := by decide +kernel
theorem dX1_chooseTwo_13 : decode cX1_chooseTwo 13 = .ok (.getfield 15, 3) := by decide +kernel
theorem dX1_chooseTwo_16 : decode cX1_chooseTwo 16 = .ok (.iload_n 2, 1) := by decide +kernel
theorem dX1_chooseTwo_17 : decode cX1_chooseTwo 17 = .ok (.iaload, 1) := by decide +kernel
theorem dX1_chooseTwo_18 : decode cX1_chooseTwo 18 = .ok (.isub, 1) := by decide +kernel
theorem dX1_chooseTwo_19 : decode cX1_chooseTwo 19 = .ok (.iload_n 2, 1) := by decide +kernel
theorem dX1_chooseTwo_20 : decode cX1_chooseTwo 20 = .ok (.iconst 1, 1) := by decide +kernel
theorem dX1_chooseTwo_21 : decode cX1_chooseTwo 21 = .ok (.iadd, 1) := by decide +kernel
theorem dX1_chooseTwo_22 : decode cX1_chooseTwo 22 = .ok (.invokevirtual 36, 3) := by decide +kernel
theorem dX1_chooseTwo_25 : decode cX1_chooseTwo 25 = .ok (.istore_n 3, 1) := by decide +kernel
theorem dX1_chooseTwo_26 : decode cX1_chooseTwo 26 = .ok (.iload_n 3, 1) := by decide +kernel
theorem dX1_chooseTwo_27 : decode cX1_chooseTwo 27 = .ok (.iconst (-1), 1) := by decide +kernel
theorem dX1_chooseTwo_28 : decode cX1_chooseTwo 28 = .ok (.if_icmp .eq 29, 3) := by decide +kernel
theorem dX1_chooseTwo_31 : decode cX1_chooseTwo 31 = .ok (.aload_n 0, 1) := by decide +kernel
theorem dX1_chooseTwo_32 : decode cX1_chooseTwo 32 = .ok (.getfield 18, 3) := by decide +kernel
theorem dX1_chooseTwo_35 : decode cX1_chooseTwo 35 = .ok (.iconst 0, 1) := by decide +kernel
theorem dX1_chooseTwo_36 : decode cX1_chooseTwo 36 = .ok (.aload_n 0, 1) := by decide +kernel
theorem dX1_chooseTwo_37 : decode cX1_chooseTwo 37 = .ok (.getfield 9, 3) := by decide +kernel
theorem dX1_chooseTwo_40 : decode cX1_chooseTwo 40 = .ok (.iload_n 2, 1) := by decide +kernel
theorem dX1_chooseTwo_41 : decode cX1_chooseTwo 41 = .ok (.iaload, 1) := by decide +kernel
theorem dX1_chooseTwo_42 : decode cX1_chooseTwo 42 = .ok (.iastore, 1) := by decide +kernel
theorem dX1_chooseTwo_43 : decode cX1_chooseTwo 43 = .ok (.aload_n 0, 1) := by decide +kernel
theorem dX1_chooseTwo_44 : decode cX1_chooseTwo 44 = .ok (.getfield 18, 3) := by decide +kernel
theorem dX1_chooseTwo_47 : decode cX1_chooseTwo 47 = .ok (.iconst 1, 1) := by decide +kernel
theorem dX1_chooseTwo_48 : decode cX1_chooseTwo 48 = .ok (.aload_n 0, 1) := by decide +kernel
theorem dX1_chooseTwo_49 : decode cX1_chooseTwo 49 = .ok (.getfield 9, 3) := by decide +kernel
theorem dX1_chooseTwo_52 : decode cX1_chooseTwo 52 = .ok (.iload_n 3, 1) := by decide +kernel
theorem dX1_chooseTwo_53 : decode cX1_chooseTwo 53 = .ok (.iaload, 1) := by decide +kernel
theorem dX1_chooseTwo_54 : decode cX1_chooseTwo 54 = .ok (.iastore, 1) := by decide +kernel
theorem dX1_chooseTwo_55 : decode cX1_chooseTwo 55 = .ok (.iconst 1, 1) := by decide +kernel
theorem dX1_chooseTwo_56 : decode cX1_chooseTwo 56 = .ok (.ireturn, 1) := by decide +kernel
theorem dX1_chooseTwo_57 : decode cX1_chooseTwo 57 = .ok (.iinc 2 1, 3) := by decide +kernel
theorem dX1_chooseTwo_60 : decode cX1_chooseTwo 60 = .ok (.goto (-58), 3) := by decide +kernel
theorem dX1_chooseTwo_63 : decode cX1_chooseTwo 63 = .ok (.iconst 0, 1) := by decide +kernel
theorem dX1_chooseTwo_64 : decode cX1_chooseTwo 64 = .ok (.ireturn, 1) := by decide +kernel
theorem dX1_chooseThree_0 : decode cX1_chooseThree 0 = .ok (.iconst 0, 1) := by decide +kernel
theorem dX1_chooseThree_1 : decode cX1_chooseThree 1 = .ok (.istore_n 2, 1) := by decide +kernel
theorem dX1_chooseThree_2 : decode cX1_chooseThree 2 = .ok (.iload_n 2, 1) := by decide +kernel
theorem dX1_chooseThree_3 : decode cX1_chooseThree 3 = .ok (.aload_n 0, 1) := by decide +kernel
theorem dX1_chooseThree_4 : decode cX1_chooseThree 4 = .ok (.getfield 21, 3) := by decide +kernel
theorem dX1_chooseThree_7 : decode cX1_chooseThree 7 = .ok (.if_icmp .ge 95, 3) := by decide +kernel
theorem dX1_chooseThree_10 : decode cX1_chooseThree 10 = .ok (.iload_n 2, 1) := by decide +kernel
theorem dX1_chooseThree_11 : decode cX1_chooseThree 11 = .ok (.iconst 1, 1) := by decide +kernel
theorem dX1_chooseThree_12 : decode cX1_chooseThree 12 = .ok (.iadd, 1) := by decide +kernel
theorem dX1_chooseThree_13 : decode cX1_chooseThree 13 = .ok (.istore_n 3, 1) := by decide +kernel
theorem dX1_chooseThree_14 : decode cX1_chooseThree 14 = .ok (.iload_n 3, 1) := by decide +kernel
theorem dX1_chooseThree_15 : decode cX1_chooseThree 15 = .ok (.aload_n 0, 1) := by decide +kernel
theorem dX1_chooseThree_16 : decode cX1_chooseThree 16 = .ok (.getfield 21, 3) := by decide +kernel
theorem dX1_chooseThree_19 : decode cX1_chooseThree 19 = .ok (.if_icmp .ge 77, 3) := by decide +kernel
theorem dX1_chooseThree_22 : decode cX1_chooseThree 22 = .ok (.aload_n 0, 1) := by decide +kernel
theorem dX1_chooseThree_23 : decode cX1_chooseThree 23 = .ok (.iload_n 1, 1) := by decide +kernel
theorem dX1_chooseThree_24 : decode cX1_chooseThree 24 = .ok (.aload_n 0, 1) := by decide +kernel
theorem dX1_chooseThree_25 : decode cX1_chooseThree 25 = .ok (.getfield 15, 3) := by decide +kernel
theorem dX1_chooseThree_28 : decode cX1_chooseThree 28 = .ok (.iload_n 2, 1) := by decide +kernel
theorem dX1_chooseThree_29 : decode cX1_chooseThree 29 = .ok (.iaload, 1) := by decide +kernel
theorem dX1_chooseThree_30 : decode cX1_chooseThree 30 = .ok (.isub, 1) := by decide +kernel
theorem dX1_chooseThree_31 : decode cX1_chooseThree 31 = .ok (.aload_n 0, 1) := by decide +kernel
theorem dX1_chooseThree_32 : decode cX1_chooseThree 32 = .ok (.getfield 15, 3) := by decide +kernel
theorem dX1_chooseThree_35 : decode cX1_chooseThree 35 = .ok (.iload_n 3, 1) := by decide +kernel
theorem dX1_chooseThree_36 : decode cX1_chooseThree 36 = .ok (.iaload, 1) := by decide +kernel
theorem dX1_chooseThree_37 : decode cX1_chooseThree 37 = .ok (.isub, 1) := by decide +kernel
theorem dX1_chooseThree_38 : decode cX1_chooseThree 38 = .ok (.iload_n 3, 1) := by decide +kernel
theorem dX1_chooseThree_39 : decode cX1_chooseThree 39 = .ok (.iconst 1, 1) := by decide +kernel
theorem dX1_chooseThree_40 : decode cX1_chooseThree 40 = .ok (.iadd, 1) := by decide +kernel
theorem dX1_chooseThree_41 : decode cX1_chooseThree 41 = .ok (.invokevirtual 36, 3) := by decide +kernel
theorem dX1_chooseThree_44 : decode cX1_chooseThree 44 = .ok (.istore 4, 2) := by decide +kernel
theorem dX1_chooseThree_46 : decode cX1_chooseThree 46 = .ok (.iload 4, 2) := by decide +kernel
theorem dX1_chooseThree_48 : decode cX1_chooseThree 48 = .ok (.iconst (-1), 1) := by decide +kernel
theorem dX1_chooseThree_49 : decode cX1_chooseThree 49 = .ok (.if_icmp .eq 41, 3) := by decide +kernel
theorem dX1_chooseThree_52 : decode cX1_chooseThree 52 = .ok (.aload_n 0, 1) := by decide +kernel
theorem dX1_chooseThree_53 : decode cX1_chooseThree 53 = .ok (.getfield 18, 3) := by decide +kernel
theorem dX1_chooseThree_56 : decode cX1_chooseThree 56 = .ok (.iconst 0, 1) := by decide +kernel
theorem dX1_chooseThree_57 : decode cX1_chooseThree 57 = .ok (.aload_n 0, 1) := by decide +kernel
theorem dX1_chooseThree_58 : decode cX1_chooseThree 58 = .ok (.getfield 9, 3) := by decide +kernel
theorem dX1_chooseThree_61 : decode cX1_chooseThree 61 = .ok (.iload_n 2, 1) := by decide +kernel
theorem dX1_chooseThree_62 : decode cX1_chooseThree 62 = .ok (.iaload, 1) := by decide +kernel
theorem dX1_chooseThree_63 : decode cX1_chooseThree 63 = .ok (.iastore, 1) := by decide +kernel
theorem dX1_chooseThree_64 : decode cX1_chooseThree 64 = .ok (.aload_n 0, 1) := by decide +kernel
theorem dX1_chooseThree_65 : decode cX1_chooseThree 65 = .ok (.getfield 18, 3) := by decide +kernel
theorem dX1_chooseThree_68 : decode cX1_chooseThree 68 = .ok (.iconst 1, 1) := by decide +kernel
theorem dX1_chooseThree_69 : decode cX1_chooseThree 69 = .ok (.aload_n 0, 1) := by decide +kernel
theorem dX1_chooseThree_70 : decode cX1_chooseThree 70 = .ok (.getfield 9, 3) := by decide +kernel
theorem dX1_chooseThree_73 : decode cX1_chooseThree 73 = .ok (.iload_n 3, 1) := by decide +kernel
theorem dX1_chooseThree_74 : decode cX1_chooseThree 74 = .ok (.iaload, 1) := by decide +kernel
theorem dX1_chooseThree_75 : decode cX1_chooseThree 75 = .ok (.iastore, 1) := by decide +kernel
theorem dX1_chooseThree_76 : decode cX1_chooseThree 76 = .ok (.aload_n 0, 1) := by decide +kernel
theorem dX1_chooseThree_77 : decode cX1_chooseThree 77 = .ok (.getfield 18, 3) := by decide +kernel
theorem dX1_chooseThree_80 : decode cX1_chooseThree 80 = .ok (.iconst 2, 1) := by decide +kernel
theorem dX1_chooseThree_81 : decode cX1_chooseThree 81 = .ok (.aload_n 0, 1) := by decide +kernel
theorem dX1_chooseThree_82 : decode cX1_chooseThree 82 = .ok (.getfield 9, 3) := by decide +kernel
theorem dX1_chooseThree_85 : decode cX1_chooseThree 85 = .ok (.iload 4, 2) := by decide +kernel
theorem dX1_chooseThree_87 : decode cX1_chooseThree 87 = .ok (.iaload, 1) := by decide +kernel
theorem dX1_chooseThree_88 : decode cX1_chooseThree 88 = .ok (.iastore, 1) := by decide +kernel
theorem dX1_chooseThree_89 : decode cX1_chooseThree 89 = .ok (.return_, 1) := by decide +kernel
theorem dX1_chooseThree_90 : decode cX1_chooseThree 90 = .ok (.iinc 3 1, 3) := by decide +kernel
theorem dX1_chooseThree_93 : decode cX1_chooseThree 93 = .ok (.goto (-79), 3) := by decide +kernel
theorem dX1_chooseThree_96 : decode cX1_chooseThree 96 = .ok (.iinc 2 1, 3) := by decide +kernel
theorem dX1_chooseThree_99 : decode cX1_chooseThree 99 = .ok (.goto (-97), 3) := by decide +kernel
theorem dX1_chooseThree_102 : decode cX1_chooseThree 102 = .ok (.return_, 1) := by decide +kernel
theorem dX1_find_0 : decode cX1_find 0 = .ok (.iload_n 2, 1) := by decide +kernel
theorem dX1_find_1 : decode cX1_find 1 = .ok (.istore_n 3, 1) := by decide +kernel
theorem dX1_find_2 : decode cX1_find 2 = .ok (.iload_n 3, 1) := by decide +kernel
theorem dX1_find_3 : decode cX1_find 3 = .ok (.aload_n 0, 1) := by decide +kernel
theorem dX1_find_4 : decode cX1_find 4 = .ok (.getfield 21, 3) := by decide +kernel
theorem dX1_find_7 : decode cX1_find 7 = .ok (.if_icmp .ge 21, 3) := by decide +kernel
theorem dX1_find_10 : decode cX1_find 10 = .ok (.aload_n 0, 1) := by decide +kernel
theorem dX1_find_11 : decode cX1_find 11 = .ok (.getfield 15, 3) := by decide +kernel
theorem dX1_find_14 : decode cX1_find 14 = .ok (.iload_n 3, 1) := by decide +kernel
theorem dX1_find_15 : decode cX1_find 15 = .ok (.iaload, 1) := by decide +kernel
theorem dX1_find_16 : decode cX1_find 16 = .ok (.iload_n 1, 1) := by decide +kernel
theorem dX1_find_17 : decode cX1_find 17 = .ok (.if_icmp .ne 5, 3) := by decide +kernel
theorem dX1_find_20 : decode cX1_find 20 = .ok (.iload_n 3, 1) := by decide +kernel
theorem dX1_find_21 : decode cX1_find 21 = .ok (.ireturn, 1) := by decide +kernel
theorem dX1_find_22 : decode cX1_find 22 = .ok (.iinc 3 1, 3) := by decide +kernel
theorem dX1_find_25 : decode cX1_find 25 = .ok (.goto (-23), 3) := by decide +kernel
theorem dX1_find_28 : decode cX1_find 28 = .ok (.iconst (-1), 1) := by decide +kernel
theorem dX1_find_29 : decode cX1_find 29 = .ok (.ireturn, 1) := by decide +kernel

def oI : Option Nat → Int32
  | none => -1
  | some q => nI q
def fnd (f : Nat → Int32) (sm : Int32) : Nat → Nat → Option Nat
  | 0, _ => none
  | k + 1, i => if f i = sm then some i else fnd f sm k (i + 1)
theorem fnd_y {f : Nat → Int32} {sm : Int32} : ∀ {k i q : Nat}, fnd f sm k i = some q → i ≤ q ∧ q < i + k ∧ f q = sm ∧ ∀ j, i ≤ j → j < q → f j ≠ sm
  | 0, i, q, h => by cases h
  | k + 1, i, q, h => by
    rw [fnd] at h
    by_cases z : f i = sm
    · rw [if_pos z] at h
      cases h
      exact ⟨Nat.le_refl _, by omega, z, fun j h1 h2 => absurd h2 (by omega)⟩
    · rw [if_neg z] at h
      obtain ⟨h1, h2, h3, h4⟩ := fnd_y h
      refine ⟨by omega, by omega, h3, fun j g1 g2 => ?_⟩
      rcases Nat.lt_or_ge i j with w | w
      · exact h4 j w g2
      · have : j = i := by omega
        rw [this]; exact z
theorem fnd_n {f : Nat → Int32} {sm : Int32} : ∀ {k i : Nat}, fnd f sm k i = none → ∀ j, i ≤ j → j < i + k → f j ≠ sm
  | 0, i, _, j, h1, h2 => absurd h2 (by omega)
  | k + 1, i, h, j, h1, h2 => by
    rw [fnd] at h
    by_cases z : f i = sm
    · rw [if_pos z] at h; cases h
    · rw [if_neg z] at h
      rcases Nat.lt_or_ge i j with w | w
      · exact fnd_n h j w (by omega)
      · have : j = i := by omega
        rw [this]; exact z
theorem oI_y {o : Option Nat} (h : ¬ oI o = -1) : ∃ q, o = some q := by
  cases o with
  | none => exact absurd rfl h
  | some q => exact ⟨q, rfl⟩
theorem nI_m1 {q : Nat} (h : q < 2 ^ 31) : ¬ nI q = -1 := fun z => by
  have h1 : (nI q).toInt = (-1 : Int32).toInt := congrArg Int32.toInt z
  rw [nI_toInt h] at h1
  have h2 : (-1 : Int32).toInt = -1 := by decide
  omega
theorem oI_n' {o : Option Nat} (hq : ∀ q, o = some q → q < 2 ^ 31) (h : oI o = -1) : o = none := by
  cases o with
  | none => rfl
  | some q => exact absurd h (nI_m1 (hq q rfl))
theorem oI_n {f : Nat → Int32} {sm : Int32} {k i : Nat} (h : oI (fnd f sm k i) = -1) (hk : i + k ≤ 2000 := by omega) : fnd f sm k i = none :=
  oI_n' (fun q e => by have := (fnd_y e).2.1; omega) h
def oneE (E : Nat → Nat → Int32) (sm : Int32) (n : Nat) : Option Nat := fnd (E 1) sm n 0
def two (E : Nat → Nat → Int32) (sm : Int32) (n : Nat) : Nat → Nat → Option (Nat × Nat)
  | 0, _ => none
  | k + 1, i => match fnd (E 1) (sm - E 1 i) (n - (i + 1)) (i + 1) with
    | some q => some (i, q)
    | none => two E sm n k (i + 1)
def thm (E : Nat → Nat → Int32) (sm : Int32) (n i : Nat) : Nat → Nat → Option (Nat × Nat)
  | 0, _ => none
  | k + 1, j => match fnd (E 1) (sm - E 1 i - E 1 j) (n - (j + 1)) (j + 1) with
    | some q => some (j, q)
    | none => thm E sm n i k (j + 1)
def thr (E : Nat → Nat → Int32) (sm : Int32) (n : Nat) : Nat → Nat → Option (Nat × Nat × Nat)
  | 0, _ => none
  | k + 1, i => match thm E sm n i (n - (i + 1)) (i + 1) with
    | some x => some (i, x)
    | none => thr E sm n k (i + 1)
def oneS (E : Nat → Nat → Int32) : Option Nat → Nat → Nat → Int32
  | none => E
  | some q => pt E 2 0 (E 0 q)
def twoS (E : Nat → Nat → Int32) : Option (Nat × Nat) → Nat → Nat → Int32
  | none => E
  | some (i, j) => pt (pt E 2 0 (E 0 i)) 2 1 (E 0 j)
def thrS (E : Nat → Nat → Int32) : Option (Nat × Nat × Nat) → Nat → Nat → Int32
  | none => E
  | some (i, j, q) => pt (pt (pt E 2 0 (E 0 i)) 2 1 (E 0 j)) 2 2 (E 0 q)
def chE (E : Nat → Nat → Int32) (sm : Int32) (n : Nat) : Nat → Nat → Int32 :=
  if oneE E sm n ≠ none then oneS E (oneE E sm n) else if two E sm n n 0 ≠ none then twoS E (two E sm n n 0) else thrS E (thr E sm n n 0)
def clrE (E : Nat → Nat → Int32) : Nat → Nat → Int32 := pt (pt (pt (pt E 3 0 0) 2 0 (-1)) 2 1 (-1)) 2 2 (-1)
def offE (E : Nat → Nat → Int32) (n : Nat) (bl du : Int32) : Nat → Nat → Int32 := pt (pt (pt E 0 n bl) 1 n du) 3 0 (nI (n + 1))
set_option maxHeartbeats 4000000 in
set_option maxRecDepth 100000 in
theorem c_X1_clear (l : Launch) (D : va_G) (cI cZ : ClassId) (a : Nat → Nat) (sz : Nat) (E : Nat → Nat → Int32) : Met l yX1_clear wsX1_clear ({ frames := 0, cells := 0, slots := 0, locals := 0 } : Room) (va_Pc [.ref (a 22)] (PreW D cI cZ (wES a cI E) sz)) (va_Qv (fun (u : Nat → Nat → Int32) => u = clrE E) (fun (u : Nat → Nat → Int32) => PostW D cI cZ (va_A (wES a cI E) sz) (wES a cI u)) (va_A (wES a cI E) sz)) 0 0 (va_A (wES a cI E) sz) := by
  refine Met.ofW (cc := cX1_clear) (maxL := 1) (ret := none) (by decide) rfl ?_
  intro p e s m args below meth c s₁ BB hml hv
  obtain ⟨rfl, hsz, hP, hK, hD0⟩ := hv
  have hx := BB.exec
  have hb := BB.bytes
  have hr := BB.returns
  have hts := atoms_spec (ws := wsX1_clear) BB.pre
  have hown : s.vm.findClass RX1 = some m.cls := findClass_of_methodNamed BB.named
  have hlocks := BB.notSynchronized
  clear BB
  subst hsz
  have hD := hD0.self (sz := s.heap.size)
  clear hD0
  generalize hAe : va_A (wES a cI E) s.heap.size = A at hD ⊢
  have hA : ∀ q : Nat, s.heap.size ≤ q → A q := fun q h => by rw [← hAe]; exact Or.inr h
  clear hAe
  have hS : va_S A s.heap s.heap [] := va_S.rf
  have hl := lv_entry ([.ref (a 22)]) (n := 1) (Nat.le_of_ble_eq_true rfl)
  rw [lg_entry_eq]
  generalize (lg_sl ([.ref (a 22)]) ++ List.replicate (1 - (lg_sl ([.ref (a 22)])).length) Slot.unset).toArray = ls at hl ⊢
  have hl : lv_has ls 1 [(0, .ref (a 22))] := hl
  generalize hHe : s.heap = H at hP
  have hS : va_S A s.heap H [] := by rw [← hHe]; exact va_S.rf
  clear hHe
  generalize hLe : ([] : List Loc) = locs at hS ⊢
  clear hLe
  refine lv_aload_n hx hb dX1_clear_0 rfl (lv_at hl 0 rfl) ?_
  refine lv_iconst (v := 0) hx hb dX1_clear_1 (by decide) ?_
  refine va_put (D := D) (ci := 1) (v := .int (0)) (ty := .int) (C := RX1) (T := TX1) (N := 4) hx hb hts (fun w h => List.mem_cons_of_mem _ (List.mem_append_right _ h)) tyX1 tyX1_ok nmX1 hown hK hP hD hS 0 rfl rfl 3 (by decide) (hts (.fieldLink RX1 21 "CashAllocator$ExactSet" "count" "I") (by decide +kernel)) (fun _ h9 => h9) rfl (by decide +kernel) rfl rfl (Nat.le_of_ble_eq_true rfl) dX1_clear_2 (fun H locs hP hD hS => ?_)
  have hP : va_P D vwCl (wES a cI (pt E 3 (0) (0))) H := hP
  have hD : va_D A (wES a cI (pt E 3 (0) (0))) := hD
  refine lv_aload_n hx hb dX1_clear_5 rfl (lv_at hl 0 rfl) ?_
  refine va_get (D := D) (ci := 1) (v := .ref (a 25)) (C := RX1) (T := TX1) (N := 4) hx hb hts (fun w h => List.mem_cons_of_mem _ (List.mem_append_right _ h)) hown hK hP 0 rfl rfl 2 (by decide) (hts (.fieldLink RX1 18 "CashAllocator$ExactSet" "chosen" "[I") (by decide +kernel)) (fun _ h9 => h9) rfl dX1_clear_6 ?_
  refine lv_iconst (v := 0) hx hb dX1_clear_9 (by decide) ?_
  refine lv_iconst (v := (-1)) hx hb dX1_clear_10 (by decide) ?_
  refine zast hx hb hK hP hD hS 3 (n := 3) (f := (E 2)) rfl (0) rfl (by omega) (by decide) (wES a cI (pt (pt E 3 (0) (0)) 2 (0) ((-1)))) rfl dX1_clear_11 (fun H locs hP hD hS => ?_)
  refine lv_aload_n hx hb dX1_clear_12 rfl (lv_at hl 0 rfl) ?_
  refine va_get (D := D) (ci := 1) (v := .ref (a 25)) (C := RX1) (T := TX1) (N := 4) hx hb hts (fun w h => List.mem_cons_of_mem _ (List.mem_append_right _ h)) hown hK hP 0 rfl rfl 2 (by decide) (hts (.fieldLink RX1 18 "CashAllocator$ExactSet" "chosen" "[I") (by decide +kernel)) (fun _ h9 => h9) rfl dX1_clear_13 ?_
  refine lv_iconst (v := 1) hx hb dX1_clear_16 (by decide) ?_
  refine lv_iconst (v := (-1)) hx hb dX1_clear_17 (by decide) ?_
  refine zast hx hb hK hP hD hS 3 (n := 3) (f := ((pt (pt E 3 (0) (0)) 2 (0) ((-1))) 2)) rfl (1) rfl (by omega) (by decide) (wES a cI (pt (pt (pt E 3 (0) (0)) 2 (0) ((-1))) 2 (1) ((-1)))) rfl dX1_clear_18 (fun H locs hP hD hS => ?_)
  refine lv_aload_n hx hb dX1_clear_19 rfl (lv_at hl 0 rfl) ?_
  refine va_get (D := D) (ci := 1) (v := .ref (a 25)) (C := RX1) (T := TX1) (N := 4) hx hb hts (fun w h => List.mem_cons_of_mem _ (List.mem_append_right _ h)) hown hK hP 0 rfl rfl 2 (by decide) (hts (.fieldLink RX1 18 "CashAllocator$ExactSet" "chosen" "[I") (by decide +kernel)) (fun _ h9 => h9) rfl dX1_clear_20 ?_
  refine lv_iconst (v := 2) hx hb dX1_clear_23 (by decide) ?_
  refine lv_iconst (v := (-1)) hx hb dX1_clear_24 (by decide) ?_
  refine zast hx hb hK hP hD hS 3 (n := 3) (f := ((pt (pt (pt E 3 (0) (0)) 2 (0) ((-1))) 2 (1) ((-1))) 2)) rfl (2) rfl (by omega) (by decide) (wES a cI (pt (pt (pt (pt E 3 (0) (0)) 2 (0) ((-1))) 2 (1) ((-1))) 2 (2) ((-1)))) rfl dX1_clear_25 (fun H locs hP hD hS => ?_)
  exact W.vret hx hb hr (fun t ht hW => ⟨⟨(pt (pt (pt (pt E 3 (0) (0)) 2 (0) ((-1))) 2 (1) ((-1))) 2 (2) ((-1))), rfl, rfl, by rw [ht]; exact hP, va_K.moved hW.alike hK, hD⟩, hS.F ht⟩) hS.2.2 dX1_clear_26
set_option maxHeartbeats 4000000 in
set_option maxRecDepth 100000 in
theorem c_X1_offer (l : Launch) (D : va_G) (cI cZ : ClassId) (a : Nat → Nat) (sz : Nat) (E : Nat → Nat → Int32) (n : Nat) (bl : Int32) (du : Int32) (hE : E 3 0 = nI n) (hn : n < 40) : Met l yX1_offer wsX1_offer ({ frames := 0, cells := 0, slots := 0, locals := 0 } : Room) (va_Pc [.ref (a 22), .int (bl), .int (du)] (PreW D cI cZ (wES a cI E) sz)) (va_Qv (fun (u : Nat → Nat → Int32) => u = offE E n bl du) (fun (u : Nat → Nat → Int32) => PostW D cI cZ (va_A (wES a cI E) sz) (wES a cI u)) (va_A (wES a cI E) sz)) 0 0 (va_A (wES a cI E) sz) := by
  refine Met.ofW (cc := cX1_offer) (maxL := 3) (ret := none) (by decide) rfl ?_
  intro p e s m args below meth c s₁ BB hml hv
  obtain ⟨rfl, hsz, hP, hK, hD0⟩ := hv
  have hx := BB.exec
  have hb := BB.bytes
  have hr := BB.returns
  have hts := atoms_spec (ws := wsX1_offer) BB.pre
  have hown : s.vm.findClass RX1 = some m.cls := findClass_of_methodNamed BB.named
  have hlocks := BB.notSynchronized
  clear BB
  subst hsz
  have hD := hD0.self (sz := s.heap.size)
  clear hD0
  generalize hAe : va_A (wES a cI E) s.heap.size = A at hD ⊢
  have hA : ∀ q : Nat, s.heap.size ≤ q → A q := fun q h => by rw [← hAe]; exact Or.inr h
  clear hAe
  have hS : va_S A s.heap s.heap [] := va_S.rf
  have hl := lv_entry ([.ref (a 22), .int (bl), .int (du)]) (n := 3) (Nat.le_of_ble_eq_true rfl)
  rw [lg_entry_eq]
  generalize (lg_sl ([.ref (a 22), .int (bl), .int (du)]) ++ List.replicate (3 - (lg_sl ([.ref (a 22), .int (bl), .int (du)])).length) Slot.unset).toArray = ls at hl ⊢
  have hl : lv_has ls 3 [(0, .ref (a 22)), (1, .int (bl)), (2, .int (du))] := hl
  generalize hHe : s.heap = H at hP
  have hS : va_S A s.heap H [] := by rw [← hHe]; exact va_S.rf
  clear hHe
  generalize hLe : ([] : List Loc) = locs at hS ⊢
  clear hLe
  refine lv_aload_n hx hb dX1_offer_0 rfl (lv_at hl 0 rfl) ?_
  refine va_get (D := D) (ci := 1) (v := .int (nI (n))) (C := RX1) (T := TX1) (N := 4) hx hb hts (fun w h => List.mem_cons_of_mem _ (List.mem_append_right _ h)) hown hK hP 0 rfl rfl 3 (by decide) (hts (.fieldLink RX1 21 "CashAllocator$ExactSet" "count" "I") (by decide +kernel)) (fun _ h9 => h9) (congrArg (fun z => some (Value.int z)) hE) dX1_offer_1 ?_
  refine lv_bipush (v := nI (40)) hx hb dX1_offer_4 (by decide) ?_
  refine lv_icmp_ge (tgt := 39) hx hb dX1_offer_6 (by decide) (fun c6 => ?_) (fun c6 => ?_)
  · -- 6 taken
    rw [nI_leI (by omega) (by omega)] at c6
    exact absurd c6 (by omega)
  · -- 6 on
    rw [nI_leI (by omega) (by omega)] at c6
    refine lv_aload_n hx hb dX1_offer_9 rfl (lv_at hl 0 rfl) ?_
    refine va_get (D := D) (ci := 1) (v := .ref (a 23)) (C := RX1) (T := TX1) (N := 4) hx hb hts (fun w h => List.mem_cons_of_mem _ (List.mem_append_right _ h)) hown hK hP 0 rfl rfl 0 (by decide) (hts (.fieldLink RX1 9 "CashAllocator$ExactSet" "offered" "[I") (by decide +kernel)) (fun _ h9 => h9) rfl dX1_offer_10 ?_
    refine lv_aload_n hx hb dX1_offer_13 rfl (lv_at hl 0 rfl) ?_
    refine va_get (D := D) (ci := 1) (v := .int (nI (n))) (C := RX1) (T := TX1) (N := 4) hx hb hts (fun w h => List.mem_cons_of_mem _ (List.mem_append_right _ h)) hown hK hP 0 rfl rfl 3 (by decide) (hts (.fieldLink RX1 21 "CashAllocator$ExactSet" "count" "I") (by decide +kernel)) (fun _ h9 => h9) (congrArg (fun z => some (Value.int z)) hE) dX1_offer_14 ?_
    refine lv_iload_n hx hb dX1_offer_17 rfl (lv_at hl 1 rfl) ?_
    refine zast hx hb hK hP hD hS 1 (n := 40) (f := (E 0)) rfl (n) rfl (by omega) (by decide) (wES a cI (pt E 0 (n) (bl))) rfl dX1_offer_18 (fun H locs hP hD hS => ?_)
    refine lv_aload_n hx hb dX1_offer_19 rfl (lv_at hl 0 rfl) ?_
    refine va_get (D := D) (ci := 1) (v := .ref (a 24)) (C := RX1) (T := TX1) (N := 4) hx hb hts (fun w h => List.mem_cons_of_mem _ (List.mem_append_right _ h)) hown hK hP 0 rfl rfl 1 (by decide) (hts (.fieldLink RX1 15 "CashAllocator$ExactSet" "dues" "[I") (by decide +kernel)) (fun _ h9 => h9) rfl dX1_offer_20 ?_
    refine lv_aload_n hx hb dX1_offer_23 rfl (lv_at hl 0 rfl) ?_
    refine va_get (D := D) (ci := 1) (v := .int (nI (n))) (C := RX1) (T := TX1) (N := 4) hx hb hts (fun w h => List.mem_cons_of_mem _ (List.mem_append_right _ h)) hown hK hP 0 rfl rfl 3 (by decide) (hts (.fieldLink RX1 21 "CashAllocator$ExactSet" "count" "I") (by decide +kernel)) (fun _ h9 => h9) (congrArg (fun z => some (Value.int z)) hE) dX1_offer_24 ?_
    refine lv_iload_n hx hb dX1_offer_27 rfl (lv_at hl 2 rfl) ?_
    refine zast hx hb hK hP hD hS 2 (n := 40) (f := (E 1)) rfl (n) rfl (by omega) (by decide) (wES a cI (pt (pt E 0 (n) (bl)) 1 (n) (du))) rfl dX1_offer_28 (fun H locs hP hD hS => ?_)
    refine lv_aload_n hx hb dX1_offer_29 rfl (lv_at hl 0 rfl) ?_
    refine lv_dup hx hb dX1_offer_30 rfl ?_
    refine va_get (D := D) (ci := 1) (v := .int (nI (n))) (C := RX1) (T := TX1) (N := 4) hx hb hts (fun w h => List.mem_cons_of_mem _ (List.mem_append_right _ h)) hown hK hP 0 rfl rfl 3 (by decide) (hts (.fieldLink RX1 21 "CashAllocator$ExactSet" "count" "I") (by decide +kernel)) (fun _ h9 => h9) (congrArg (fun z => some (Value.int z)) hE) dX1_offer_31 ?_
    refine lv_iconst (v := 1) hx hb dX1_offer_34 (by decide) ?_
    refine lv_iadd hx hb dX1_offer_35 ?_
    rw [nI_1]
    refine va_put (D := D) (ci := 1) (v := .int (nI (n + 1))) (ty := .int) (C := RX1) (T := TX1) (N := 4) hx hb hts (fun w h => List.mem_cons_of_mem _ (List.mem_append_right _ h)) tyX1 tyX1_ok nmX1 hown hK hP hD hS 0 rfl rfl 3 (by decide) (hts (.fieldLink RX1 21 "CashAllocator$ExactSet" "count" "I") (by decide +kernel)) (fun _ h9 => h9) rfl (by decide +kernel) rfl rfl (Nat.le_of_ble_eq_true rfl) dX1_offer_36 (fun H locs hP hD hS => ?_)
    have hP : va_P D vwCl (wES a cI (pt (pt (pt E 0 (n) (bl)) 1 (n) (du)) 3 (0) (nI (n + 1)))) H := hP
    have hD : va_D A (wES a cI (pt (pt (pt E 0 (n) (bl)) 1 (n) (du)) 3 (0) (nI (n + 1)))) := hD
    exact W.vret hx hb hr (fun t ht hW => ⟨⟨(pt (pt (pt E 0 (n) (bl)) 1 (n) (du)) 3 (0) (nI (n + 1))), rfl, rfl, by rw [ht]; exact hP, va_K.moved hW.alike hK, hD⟩, hS.F ht⟩) hS.2.2 dX1_offer_39
set_option maxHeartbeats 4000000 in
set_option maxRecDepth 100000 in
theorem c_X1_find (l : Launch) (D : va_G) (cI cZ : ClassId) (a : Nat → Nat) (sz : Nat) (E : Nat → Nat → Int32) (sm : Int32) (n : Nat) (i0 : Nat) (hE : E 3 0 = nI n) (hn : n ≤ 40) (hi : i0 ≤ n) : Met l yX1_find wsX1_find ({ frames := 0, cells := 0, slots := 0, locals := 0 } : Room) (va_Pc [.ref (a 22), .int (sm), .int (nI (i0))] (PreW D cI cZ (wES a cI E) sz)) (va_Qi (fun (r : Int32) (u : Unit) => r = oI (fnd (E 1) sm (n - i0) i0)) (fun (u : Unit) => PostW D cI cZ (va_A (wES a cI E) sz) (wES a cI E)) (va_A (wES a cI E) sz)) 0 0 (va_A (wES a cI E) sz) := by
  refine Met.ofW (cc := cX1_find) (maxL := 4) (ret := (some .int)) (by decide) rfl ?_
  intro p e s m args below meth c s₁ BB hml hv
  obtain ⟨rfl, hsz, hP, hK, hD0⟩ := hv
  have hx := BB.exec
  have hb := BB.bytes
  have hr := BB.returns
  have hts := atoms_spec (ws := wsX1_find) BB.pre
  have hown : s.vm.findClass RX1 = some m.cls := findClass_of_methodNamed BB.named
  have hlocks := BB.notSynchronized
  clear BB
  subst hsz
  have hD := hD0.self (sz := s.heap.size)
  clear hD0
  generalize hAe : va_A (wES a cI E) s.heap.size = A at hD ⊢
  have hA : ∀ q : Nat, s.heap.size ≤ q → A q := fun q h => by rw [← hAe]; exact Or.inr h
  clear hAe
  have hS : va_S A s.heap s.heap [] := va_S.rf
  have hl := lv_entry ([.ref (a 22), .int (sm), .int (nI (i0))]) (n := 4) (Nat.le_of_ble_eq_true rfl)
  rw [lg_entry_eq]
  generalize (lg_sl ([.ref (a 22), .int (sm), .int (nI (i0))]) ++ List.replicate (4 - (lg_sl ([.ref (a 22), .int (sm), .int (nI (i0))])).length) Slot.unset).toArray = ls at hl ⊢
  have hl : lv_has ls 4 [(0, .ref (a 22)), (1, .int (sm)), (2, .int (nI (i0)))] := hl
  generalize hHe : s.heap = H at hP
  have hS : va_S A s.heap H [] := by rw [← hHe]; exact va_S.rf
  clear hHe
  generalize hLe : ([] : List Loc) = locs at hS ⊢
  clear hLe
  refine lv_iload_n hx hb dX1_find_0 rfl (lv_at hl 2 rfl) ?_
  refine lv_istore_n (lv' := [(3, .int (nI (i0))), (0, .ref (a 22)), (1, .int (sm)), (2, .int (nI (i0)))]) hx hb dX1_find_1 rfl hl (by decide) rfl (fun ls hl => ?_)
  have loop2 : ∀ (fu : Nat) (i : Nat) (hin : i ≤ n) (hg : fnd (E 1) sm (n - i0) i0 = fnd (E 1) sm (n - i) i) (hfu : n - i < fu) (H : Heap) (locs : List Loc) (hP : va_P D vwCl (wES a cI E) H) (hD : va_D A (wES a cI E)) (hS : va_S A s.heap H locs) (ls : Array Slot) (hl : lv_has ls 4 [(3, .int (nI (i))), (0, .ref (a 22)), (1, .int (sm)), (2, .int (nI (i0)))]), W p l e (headSpec wsX1_find ({ frames := 0, cells := 0, slots := 0, locals := 0 } : Room)).room s m ([.ref (a 22), .int (sm), .int (nI (i0))] : List Value).toArray below meth c H locs 0 0 (MQ below (va_Qi (fun (r : Int32) (u : Unit) => r = oI (fnd (E 1) sm (n - i0) i0)) (fun (u : Unit) => PostW D cI cZ A (wES a cI E)) A) ([.ref (a 22), .int (sm), .int (nI (i0))] : List Value).toArray s 0 0 A) (F0 m 2 ls []) := by
    clear hP hD hS hl
    intro fu2
    induction fu2 with
    | zero => intro i hin hg hfu; exact absurd hfu (Nat.not_lt_zero _)
    | succ fu2 ih2 =>
      intro i hin hg hfu H locs hP hD hS ls hl
      refine lv_iload_n hx hb dX1_find_2 rfl (lv_at hl 0 rfl) ?_
      refine lv_aload_n hx hb dX1_find_3 rfl (lv_at hl 1 rfl) ?_
      refine va_get (D := D) (ci := 1) (v := .int (nI (n))) (C := RX1) (T := TX1) (N := 4) hx hb hts (fun w h => List.mem_cons_of_mem _ (List.mem_append_right _ h)) hown hK hP 0 rfl rfl 3 (by decide) (hts (.fieldLink RX1 21 "CashAllocator$ExactSet" "count" "I") (by decide +kernel)) (fun _ h9 => h9) (congrArg (fun z => some (Value.int z)) hE) dX1_find_4 ?_
      refine lv_icmp_ge (tgt := 28) hx hb dX1_find_7 (by decide) (fun c7 => ?_) (fun c7 => ?_)
      · -- 7 taken
        rw [nI_leI (by omega) (by omega)] at c7
        refine lv_iconst (v := (-1)) hx hb dX1_find_28 (by decide) ?_
        have hfin : (-1 : Int32) = oI (fnd (E 1) sm (n - i0) i0) := by rw [hg, show n - i = 0 by omega]; rfl
        exact W.iret (v := (-1)) hx hb hr (fun t ht hW => ⟨⟨(-1), (), rfl, hfin, by rw [ht]; exact hP, va_K.moved hW.alike hK, hD⟩, hS.F ht⟩) hS.2.2 dX1_find_29
      · -- 7 on
        rw [nI_leI (by omega) (by omega)] at c7
        have c7 : i < n := by omega
        have hk : n - i = (n - (i + 1)) + 1 := by omega
        rw [hk] at hg
        refine lv_aload_n hx hb dX1_find_10 rfl (lv_at hl 1 rfl) ?_
        refine va_get (D := D) (ci := 1) (v := .ref (a 24)) (C := RX1) (T := TX1) (N := 4) hx hb hts (fun w h => List.mem_cons_of_mem _ (List.mem_append_right _ h)) hown hK hP 0 rfl rfl 1 (by decide) (hts (.fieldLink RX1 15 "CashAllocator$ExactSet" "dues" "[I") (by decide +kernel)) (fun _ h9 => h9) rfl dX1_find_11 ?_
        refine lv_iload_n hx hb dX1_find_14 rfl (lv_at hl 0 rfl) ?_
        refine zald hx hb hK hP 2 (n := 40) (f := (E 1)) rfl (i) rfl (by omega) (by decide) dX1_find_15 ?_
        refine lv_iload_n hx hb dX1_find_16 rfl (lv_at hl 2 rfl) ?_
        refine lv_icmp_ne (tgt := 22) hx hb dX1_find_17 (by decide) (fun c17 => ?_) (fun c17 => ?_)
        · -- 17 taken
          have hg2 : fnd (E 1) sm (n - i0) i0 = fnd (E 1) sm (n - (i + 1)) (i + 1) := by rw [hg, fnd, if_neg c17]
          refine lv_iinc (v := nI (i + 1)) (lv' := [(3, .int (nI (i + 1))), (0, .ref (a 22)), (1, .int (sm)), (2, .int (nI (i0)))]) hx hb dX1_find_22 hl (k := 0) rfl (nI_1 _) (by decide) rfl (fun ls hl => ?_)
          refine lv_goto (tgt := 2) hx hb dX1_find_25 (by decide) ?_
          exact ih2 (i + 1) (by omega) hg2 (by omega) _ _ hP hD hS _ (lv_sub hl [0, 1, 2, 3] rfl)
        · -- 17 on
          refine lv_iload_n hx hb dX1_find_20 rfl (lv_at hl 0 rfl) ?_
          have hfin : nI i = oI (fnd (E 1) sm (n - i0) i0) := by rw [hg, fnd, if_pos c17]; rfl
          exact W.iret (v := nI (i)) hx hb hr (fun t ht hW => ⟨⟨nI (i), (), rfl, hfin, by rw [ht]; exact hP, va_K.moved hW.alike hK, hD⟩, hS.F ht⟩) hS.2.2 dX1_find_21
  exact loop2 _ (i0) (hi) (rfl) (Nat.lt_succ_self _) _ _ hP hD hS _ (lv_sub hl [0, 1, 2, 3] rfl)
set_option maxHeartbeats 4000000 in
set_option maxRecDepth 100000 in
theorem c_X1_chooseOne (l : Launch) (D : va_G) (cI cZ : ClassId) (a : Nat → Nat) (sz : Nat) (E : Nat → Nat → Int32) (sm : Int32) (n : Nat) (hE : E 3 0 = nI n) (hn : n ≤ 40) : Met l yX1_chooseOne wsX1_chooseOne ({ frames := 1, cells := 0, slots := 0, locals := 23 } : Room) (va_Pc [.ref (a 22), .int (sm)] (PreW D cI cZ (wES a cI E) sz)) (va_Qi (fun (r : Int32) (u : Nat → Nat → Int32) => r = b2 (oneE E sm n ≠ none) ∧ u = oneS E (oneE E sm n)) (fun (u : Nat → Nat → Int32) => PostW D cI cZ (va_A (wES a cI E) sz) (wES a cI u)) (va_A (wES a cI E) sz)) 0 0 (va_A (wES a cI E) sz) := by
  refine Met.ofW (cc := cX1_chooseOne) (maxL := 3) (ret := (some .boolean)) (by decide) rfl ?_
  intro p e s m args below meth c s₁ BB hml hv
  obtain ⟨rfl, hsz, hP, hK, hD0⟩ := hv
  have hx := BB.exec
  have hb := BB.bytes
  have hr := BB.returns
  have hts := atoms_spec (ws := wsX1_chooseOne) BB.pre
  have hown : s.vm.findClass RX1 = some m.cls := findClass_of_methodNamed BB.named
  have hlocks := BB.notSynchronized
  clear BB
  subst hsz
  have hD := hD0.self (sz := s.heap.size)
  clear hD0
  generalize hAe : va_A (wES a cI E) s.heap.size = A at hD ⊢
  have hA : ∀ q : Nat, s.heap.size ≤ q → A q := fun q h => by rw [← hAe]; exact Or.inr h
  clear hAe
  have hS : va_S A s.heap s.heap [] := va_S.rf
  have hl := lv_entry ([.ref (a 22), .int (sm)]) (n := 3) (Nat.le_of_ble_eq_true rfl)
  rw [lg_entry_eq]
  generalize (lg_sl ([.ref (a 22), .int (sm)]) ++ List.replicate (3 - (lg_sl ([.ref (a 22), .int (sm)])).length) Slot.unset).toArray = ls at hl ⊢
  have hl : lv_has ls 3 [(0, .ref (a 22)), (1, .int (sm))] := hl
  generalize hHe : s.heap = H at hP
  have hS : va_S A s.heap H [] := by rw [← hHe]; exact va_S.rf
  clear hHe
  generalize hLe : ([] : List Loc) = locs at hS ⊢
  clear hLe
  refine lv_aload_n hx hb dX1_chooseOne_0 rfl (lv_at hl 0 rfl) ?_
  refine lv_iload_n hx hb dX1_chooseOne_1 rfl (lv_at hl 1 rfl) ?_
  refine lv_iconst (v := nI (0)) hx hb dX1_chooseOne_2 (by decide) ?_
  refine zcVi (ci := 1) (q0 := 0) (wf := (fun (u : Unit) => (wES a cI E))) (List.range 4) ⟨hx, hb, hml, hown, hts⟩ (zwAll 4 (by decide) rfl hP hD hS hA) hK (c_X1_find l D cI cZ a H.size (E) (sm) (n) (0) (by first | assumption | omega) (by first | assumption | omega) (by first | assumption | omega)) (cwV 2 hts gX1_chooseOne_X1_find rfl rfl rfl (by decide +kernel) ⟨Nat.le_of_ble_eq_true rfl, Nat.le_of_ble_eq_true rfl⟩) rfl rfl (by decide) (fun _ => rfl) rfl hl.1 rfl (Nat.le_of_ble_eq_true rfl) dX1_chooseOne_3 ⟨Nat.le_of_ble_eq_true rfl, Nat.le_of_ble_eq_true rfl⟩ (fun r3 u H locs hw hP hD hS => ?_)
  subst hw
  refine lv_istore_n (lv' := [(2, .int (oI (fnd ((E) 1) (sm) (n - (0)) (0)))), (0, .ref (a 22)), (1, .int (sm))]) hx hb dX1_chooseOne_6 rfl hl (by decide) rfl (fun ls hl => ?_)
  refine lv_iload_n hx hb dX1_chooseOne_7 rfl (lv_at hl 0 rfl) ?_
  refine lv_iconst (v := (-1)) hx hb dX1_chooseOne_8 (by decide) ?_
  refine lv_icmp_ne (tgt := 14) hx hb dX1_chooseOne_9 (by decide) (fun c9 => ?_) (fun c9 => ?_)
  · -- 9 taken
    obtain ⟨q, hq⟩ := oI_y c9
    have gq := fnd_y hq
    rw [hq] at hl
    have hl : lv_has ls 3 [(2, .int (nI (q))), (0, .ref (a 22)), (1, .int (sm))] := hl
    refine lv_aload_n hx hb dX1_chooseOne_14 rfl (lv_at hl 1 rfl) ?_
    refine va_get (D := D) (ci := 1) (v := .ref (a 25)) (C := RX1) (T := TX1) (N := 4) hx hb hts (fun w h => List.mem_cons_of_mem _ (List.mem_append_right _ h)) hown hK hP 0 rfl rfl 2 (by decide) (hts (.fieldLink RX1 18 "CashAllocator$ExactSet" "chosen" "[I") (by decide +kernel)) (fun _ h9 => h9) rfl dX1_chooseOne_15 ?_
    refine lv_iconst (v := 0) hx hb dX1_chooseOne_18 (by decide) ?_
    refine lv_aload_n hx hb dX1_chooseOne_19 rfl (lv_at hl 1 rfl) ?_
    refine va_get (D := D) (ci := 1) (v := .ref (a 23)) (C := RX1) (T := TX1) (N := 4) hx hb hts (fun w h => List.mem_cons_of_mem _ (List.mem_append_right _ h)) hown hK hP 0 rfl rfl 0 (by decide) (hts (.fieldLink RX1 9 "CashAllocator$ExactSet" "offered" "[I") (by decide +kernel)) (fun _ h9 => h9) rfl dX1_chooseOne_20 ?_
    refine lv_iload_n hx hb dX1_chooseOne_23 rfl (lv_at hl 0 rfl) ?_
    refine zald hx hb hK hP 1 (n := 40) (f := (E 0)) rfl (q) rfl (by omega) (by decide) dX1_chooseOne_24 ?_
    refine zast hx hb hK hP hD hS 3 (n := 3) (f := (E 2)) rfl (0) rfl (by omega) (by decide) (wES a cI (pt E 2 (0) (E 0 (q)))) rfl dX1_chooseOne_25 (fun H locs hP hD hS => ?_)
    refine lv_iconst (v := 1) hx hb dX1_chooseOne_26 (by decide) ?_
    exact W.zret (ty := .boolean) (v := 1) hx hb hr (by decide) (fun t ht hW => ⟨⟨1, (pt E 2 (0) (E 0 (q))), rfl, ⟨by rw [show oneE E sm n = some q from hq]; rfl, by rw [show oneE E sm n = some q from hq]; rfl⟩, by rw [ht]; exact hP, va_K.moved hW.alike hK, hD⟩, hS.F ht⟩) hS.2.2 dX1_chooseOne_27
  · -- 9 on
    have hf : oneE E sm n = none := oI_n c9
    refine lv_iconst (v := 0) hx hb dX1_chooseOne_12 (by decide) ?_
    exact W.zret (ty := .boolean) (v := 0) hx hb hr (by decide) (fun t ht hW => ⟨⟨0, E, rfl, ⟨by rw [hf]; rfl, by rw [hf]; rfl⟩, by rw [ht]; exact hP, va_K.moved hW.alike hK, hD⟩, hS.F ht⟩) hS.2.2 dX1_chooseOne_13
set_option maxHeartbeats 4000000 in
set_option maxRecDepth 100000 in
theorem c_X1_chooseTwo (l : Launch) (D : va_G) (cI cZ : ClassId) (a : Nat → Nat) (sz : Nat) (E : Nat → Nat → Int32) (sm : Int32) (n : Nat) (hE : E 3 0 = nI n) (hn : n ≤ 40) : Met l yX1_chooseTwo wsX1_chooseTwo ({ frames := 1, cells := 0, slots := 0, locals := 23 } : Room) (va_Pc [.ref (a 22), .int (sm)] (PreW D cI cZ (wES a cI E) sz)) (va_Qi (fun (r : Int32) (u : Nat → Nat → Int32) => r = b2 (two E sm n n 0 ≠ none) ∧ u = twoS E (two E sm n n 0)) (fun (u : Nat → Nat → Int32) => PostW D cI cZ (va_A (wES a cI E) sz) (wES a cI u)) (va_A (wES a cI E) sz)) 0 0 (va_A (wES a cI E) sz) := by
  refine Met.ofW (cc := cX1_chooseTwo) (maxL := 4) (ret := (some .boolean)) (by decide) rfl ?_
  intro p e s m args below meth c s₁ BB hml hv
  obtain ⟨rfl, hsz, hP, hK, hD0⟩ := hv
  have hx := BB.exec
  have hb := BB.bytes
  have hr := BB.returns
  have hts := atoms_spec (ws := wsX1_chooseTwo) BB.pre
  have hown : s.vm.findClass RX1 = some m.cls := findClass_of_methodNamed BB.named
  have hlocks := BB.notSynchronized
  clear BB
  subst hsz
  have hD := hD0.self (sz := s.heap.size)
  clear hD0
  generalize hAe : va_A (wES a cI E) s.heap.size = A at hD ⊢
  have hA : ∀ q : Nat, s.heap.size ≤ q → A q := fun q h => by rw [← hAe]; exact Or.inr h
  clear hAe
  have hS : va_S A s.heap s.heap [] := va_S.rf
  have hl := lv_entry ([.ref (a 22), .int (sm)]) (n := 4) (Nat.le_of_ble_eq_true rfl)
  rw [lg_entry_eq]
  generalize (lg_sl ([.ref (a 22), .int (sm)]) ++ List.replicate (4 - (lg_sl ([.ref (a 22), .int (sm)])).length) Slot.unset).toArray = ls at hl ⊢
  have hl : lv_has ls 4 [(0, .ref (a 22)), (1, .int (sm))] := hl
  generalize hHe : s.heap = H at hP
  have hS : va_S A s.heap H [] := by rw [← hHe]; exact va_S.rf
  clear hHe
  generalize hLe : ([] : List Loc) = locs at hS ⊢
  clear hLe
  refine lv_iconst (v := nI (0)) hx hb dX1_chooseTwo_0 (by decide) ?_
  refine lv_istore_n (lv' := [(2, .int (nI (0))), (0, .ref (a 22)), (1, .int (sm))]) hx hb dX1_chooseTwo_1 rfl hl (by decide) rfl (fun ls hl => ?_)
  have loop2 : ∀ (fu : Nat) (i : Nat) (hin : i ≤ n) (hg : two E sm n n 0 = two E sm n (n - i) i) (hfu : n - i < fu) (H : Heap) (locs : List Loc) (hP : va_P D vwCl (wES a cI E) H) (hD : va_D A (wES a cI E)) (hS : va_S A s.heap H locs) (ls : Array Slot) (hl : lv_has ls 4 [(2, .int (nI (i))), (0, .ref (a 22)), (1, .int (sm))]), W p l e (headSpec wsX1_chooseTwo ({ frames := 1, cells := 0, slots := 0, locals := 23 } : Room)).room s m ([.ref (a 22), .int (sm)] : List Value).toArray below meth c H locs 0 0 (MQ below (va_Qi (fun (r : Int32) (u : Nat → Nat → Int32) => r = b2 (two E sm n n 0 ≠ none) ∧ u = twoS E (two E sm n n 0)) (fun (u : Nat → Nat → Int32) => PostW D cI cZ A (wES a cI u)) A) ([.ref (a 22), .int (sm)] : List Value).toArray s 0 0 A) (F0 m 2 ls []) := by
    clear hP hD hS hl
    intro fu2
    induction fu2 with
    | zero => intro i hin hg hfu; exact absurd hfu (Nat.not_lt_zero _)
    | succ fu2 ih2 =>
      intro i hin hg hfu H locs hP hD hS ls hl
      refine lv_iload_n hx hb dX1_chooseTwo_2 rfl (lv_at hl 0 rfl) ?_
      refine lv_aload_n hx hb dX1_chooseTwo_3 rfl (lv_at hl 1 rfl) ?_
      refine va_get (D := D) (ci := 1) (v := .int (nI (n))) (C := RX1) (T := TX1) (N := 4) hx hb hts (fun w h => List.mem_cons_of_mem _ (List.mem_append_right _ h)) hown hK hP 0 rfl rfl 3 (by decide) (hts (.fieldLink RX1 21 "CashAllocator$ExactSet" "count" "I") (by decide +kernel)) (fun _ h9 => h9) (congrArg (fun z => some (Value.int z)) hE) dX1_chooseTwo_4 ?_
      refine lv_icmp_ge (tgt := 63) hx hb dX1_chooseTwo_7 (by decide) (fun c7 => ?_) (fun c7 => ?_)
      · -- 7 taken
        rw [nI_leI (by omega) (by omega)] at c7
        refine lv_iconst (v := 0) hx hb dX1_chooseTwo_63 (by decide) ?_
        have hf : two E sm n n 0 = none := by rw [hg, show n - i = 0 by omega]; rfl
        exact W.zret (ty := .boolean) (v := 0) hx hb hr (by decide) (fun t ht hW => ⟨⟨0, E, rfl, ⟨by rw [hf]; rfl, by rw [hf]; rfl⟩, by rw [ht]; exact hP, va_K.moved hW.alike hK, hD⟩, hS.F ht⟩) hS.2.2 dX1_chooseTwo_64
      · -- 7 on
        rw [nI_leI (by omega) (by omega)] at c7
        have c7 : i < n := by omega
        have hk : n - i = (n - (i + 1)) + 1 := by omega
        rw [hk] at hg
        refine lv_aload_n hx hb dX1_chooseTwo_10 rfl (lv_at hl 1 rfl) ?_
        refine lv_iload_n hx hb dX1_chooseTwo_11 rfl (lv_at hl 2 rfl) ?_
        refine lv_aload_n hx hb dX1_chooseTwo_12 rfl (lv_at hl 1 rfl) ?_
        refine va_get (D := D) (ci := 1) (v := .ref (a 24)) (C := RX1) (T := TX1) (N := 4) hx hb hts (fun w h => List.mem_cons_of_mem _ (List.mem_append_right _ h)) hown hK hP 0 rfl rfl 1 (by decide) (hts (.fieldLink RX1 15 "CashAllocator$ExactSet" "dues" "[I") (by decide +kernel)) (fun _ h9 => h9) rfl dX1_chooseTwo_13 ?_
        refine lv_iload_n hx hb dX1_chooseTwo_16 rfl (lv_at hl 0 rfl) ?_
        refine zald hx hb hK hP 2 (n := 40) (f := (E 1)) rfl (i) rfl (by omega) (by decide) dX1_chooseTwo_17 ?_
        refine lv_isub hx hb dX1_chooseTwo_18 ?_
        refine lv_iload_n hx hb dX1_chooseTwo_19 rfl (lv_at hl 0 rfl) ?_
        refine lv_iconst (v := 1) hx hb dX1_chooseTwo_20 (by decide) ?_
        refine lv_iadd hx hb dX1_chooseTwo_21 ?_
        rw [nI_1]
        refine zcVi (ci := 1) (q0 := 0) (wf := (fun (u : Unit) => (wES a cI E))) (List.range 4) ⟨hx, hb, hml, hown, hts⟩ (zwAll 4 (by decide) rfl hP hD hS hA) hK (c_X1_find l D cI cZ a H.size (E) ((sm) - (E 1 (i))) (n) (i + 1) (by first | assumption | omega) (by first | assumption | omega) (by first | assumption | omega)) (cwV 2 hts gX1_chooseTwo_X1_find rfl rfl rfl (by decide +kernel) ⟨Nat.le_of_ble_eq_true rfl, Nat.le_of_ble_eq_true rfl⟩) rfl rfl (by decide) (fun _ => rfl) rfl hl.1 rfl (Nat.le_of_ble_eq_true rfl) dX1_chooseTwo_22 ⟨Nat.le_of_ble_eq_true rfl, Nat.le_of_ble_eq_true rfl⟩ (fun r22 u H locs hw hP hD hS => ?_)
        subst hw
        refine lv_istore_n (lv' := [(3, .int (oI (fnd ((E) 1) ((sm) - (E 1 (i))) (n - (i + 1)) (i + 1)))), (2, .int (nI (i))), (0, .ref (a 22)), (1, .int (sm))]) hx hb dX1_chooseTwo_25 rfl hl (by decide) rfl (fun ls hl => ?_)
        refine lv_iload_n hx hb dX1_chooseTwo_26 rfl (lv_at hl 0 rfl) ?_
        refine lv_iconst (v := (-1)) hx hb dX1_chooseTwo_27 (by decide) ?_
        refine lv_icmp_eq (tgt := 57) hx hb dX1_chooseTwo_28 (by decide) (fun c28 => ?_) (fun c28 => ?_)
        · -- 28 taken
          have hf := oI_n c28
          have hg2 : two E sm n n 0 = two E sm n (n - (i + 1)) (i + 1) := by rw [hg, two, hf]
          refine lv_iinc (v := nI (i + 1)) (lv' := [(2, .int (nI (i + 1))), (3, .int (oI (fnd ((E) 1) ((sm) - (E 1 (i))) (n - (i + 1)) (i + 1)))), (0, .ref (a 22)), (1, .int (sm))]) hx hb dX1_chooseTwo_57 hl (k := 1) rfl (nI_1 _) (by decide) rfl (fun ls hl => ?_)
          refine lv_goto (tgt := 2) hx hb dX1_chooseTwo_60 (by decide) ?_
          exact ih2 (i + 1) (by omega) hg2 (by omega) _ _ hP hD hS _ (lv_sub hl [0, 2, 3] rfl)
        · -- 28 on
          obtain ⟨q, hq⟩ := oI_y c28
          have gq := fnd_y hq
          rw [hq] at hl
          have hl : lv_has ls 4 [(3, .int (nI (q))), (2, .int (nI (i))), (0, .ref (a 22)), (1, .int (sm))] := hl
          refine lv_aload_n hx hb dX1_chooseTwo_31 rfl (lv_at hl 2 rfl) ?_
          refine va_get (D := D) (ci := 1) (v := .ref (a 25)) (C := RX1) (T := TX1) (N := 4) hx hb hts (fun w h => List.mem_cons_of_mem _ (List.mem_append_right _ h)) hown hK hP 0 rfl rfl 2 (by decide) (hts (.fieldLink RX1 18 "CashAllocator$ExactSet" "chosen" "[I") (by decide +kernel)) (fun _ h9 => h9) rfl dX1_chooseTwo_32 ?_
          refine lv_iconst (v := 0) hx hb dX1_chooseTwo_35 (by decide) ?_
          refine lv_aload_n hx hb dX1_chooseTwo_36 rfl (lv_at hl 2 rfl) ?_
          refine va_get (D := D) (ci := 1) (v := .ref (a 23)) (C := RX1) (T := TX1) (N := 4) hx hb hts (fun w h => List.mem_cons_of_mem _ (List.mem_append_right _ h)) hown hK hP 0 rfl rfl 0 (by decide) (hts (.fieldLink RX1 9 "CashAllocator$ExactSet" "offered" "[I") (by decide +kernel)) (fun _ h9 => h9) rfl dX1_chooseTwo_37 ?_
          refine lv_iload_n hx hb dX1_chooseTwo_40 rfl (lv_at hl 1 rfl) ?_
          refine zald hx hb hK hP 1 (n := 40) (f := (E 0)) rfl (i) rfl (by omega) (by decide) dX1_chooseTwo_41 ?_
          refine zast hx hb hK hP hD hS 3 (n := 3) (f := (E 2)) rfl (0) rfl (by omega) (by decide) (wES a cI (pt E 2 (0) (E 0 (i)))) rfl dX1_chooseTwo_42 (fun H locs hP hD hS => ?_)
          refine lv_aload_n hx hb dX1_chooseTwo_43 rfl (lv_at hl 2 rfl) ?_
          refine va_get (D := D) (ci := 1) (v := .ref (a 25)) (C := RX1) (T := TX1) (N := 4) hx hb hts (fun w h => List.mem_cons_of_mem _ (List.mem_append_right _ h)) hown hK hP 0 rfl rfl 2 (by decide) (hts (.fieldLink RX1 18 "CashAllocator$ExactSet" "chosen" "[I") (by decide +kernel)) (fun _ h9 => h9) rfl dX1_chooseTwo_44 ?_
          refine lv_iconst (v := 1) hx hb dX1_chooseTwo_47 (by decide) ?_
          refine lv_aload_n hx hb dX1_chooseTwo_48 rfl (lv_at hl 2 rfl) ?_
          refine va_get (D := D) (ci := 1) (v := .ref (a 23)) (C := RX1) (T := TX1) (N := 4) hx hb hts (fun w h => List.mem_cons_of_mem _ (List.mem_append_right _ h)) hown hK hP 0 rfl rfl 0 (by decide) (hts (.fieldLink RX1 9 "CashAllocator$ExactSet" "offered" "[I") (by decide +kernel)) (fun _ h9 => h9) rfl dX1_chooseTwo_49 ?_
          refine lv_iload_n hx hb dX1_chooseTwo_52 rfl (lv_at hl 0 rfl) ?_
          refine zald hx hb hK hP 1 (n := 40) (f := (E 0)) rfl (q) rfl (by omega) (by decide) dX1_chooseTwo_53 ?_
          refine zast hx hb hK hP hD hS 3 (n := 3) (f := ((pt E 2 (0) (E 0 (i))) 2)) rfl (1) rfl (by omega) (by decide) (wES a cI (pt (pt E 2 (0) (E 0 (i))) 2 (1) (E 0 (q)))) rfl dX1_chooseTwo_54 (fun H locs hP hD hS => ?_)
          refine lv_iconst (v := 1) hx hb dX1_chooseTwo_55 (by decide) ?_
          have hf : two E sm n n 0 = some (i, q) := by rw [hg, two, hq]
          exact W.zret (ty := .boolean) (v := 1) hx hb hr (by decide) (fun t ht hW => ⟨⟨1, (pt (pt E 2 (0) (E 0 (i))) 2 (1) (E 0 (q))), rfl, ⟨by rw [hf]; rfl, by rw [hf]; rfl⟩, by rw [ht]; exact hP, va_K.moved hW.alike hK, hD⟩, hS.F ht⟩) hS.2.2 dX1_chooseTwo_56
  exact loop2 _ (0) (Nat.zero_le _) (by rw [Nat.sub_zero]) (Nat.lt_succ_self _) _ _ hP hD hS _ (lv_sub hl [0, 1, 2] rfl)
set_option maxHeartbeats 4000000 in
set_option maxRecDepth 100000 in
theorem c_X1_chooseThree (l : Launch) (D : va_G) (cI cZ : ClassId) (a : Nat → Nat) (sz : Nat) (E : Nat → Nat → Int32) (sm : Int32) (n : Nat) (hE : E 3 0 = nI n) (hn : n ≤ 40) : Met l yX1_chooseThree wsX1_chooseThree ({ frames := 1, cells := 0, slots := 0, locals := 23 } : Room) (va_Pc [.ref (a 22), .int (sm)] (PreW D cI cZ (wES a cI E) sz)) (va_Qv (fun (u : Nat → Nat → Int32) => u = thrS E (thr E sm n n 0)) (fun (u : Nat → Nat → Int32) => PostW D cI cZ (va_A (wES a cI E) sz) (wES a cI u)) (va_A (wES a cI E) sz)) 0 0 (va_A (wES a cI E) sz) := by
  refine Met.ofW (cc := cX1_chooseThree) (maxL := 5) (ret := none) (by decide) rfl ?_
  intro p e s m args below meth c s₁ BB hml hv
  obtain ⟨rfl, hsz, hP, hK, hD0⟩ := hv
  have hx := BB.exec
  have hb := BB.bytes
  have hr := BB.returns
  have hts := atoms_spec (ws := wsX1_chooseThree) BB.pre
  have hown : s.vm.findClass RX1 = some m.cls := findClass_of_methodNamed BB.named
  have hlocks := BB.notSynchronized
  clear BB
  subst hsz
  have hD := hD0.self (sz := s.heap.size)
  clear hD0
  generalize hAe : va_A (wES a cI E) s.heap.size = A at hD ⊢
  have hA : ∀ q : Nat, s.heap.size ≤ q → A q := fun q h => by rw [← hAe]; exact Or.inr h
  clear hAe
  have hS : va_S A s.heap s.heap [] := va_S.rf
  have hl := lv_entry ([.ref (a 22), .int (sm)]) (n := 5) (Nat.le_of_ble_eq_true rfl)
  rw [lg_entry_eq]
  generalize (lg_sl ([.ref (a 22), .int (sm)]) ++ List.replicate (5 - (lg_sl ([.ref (a 22), .int (sm)])).length) Slot.unset).toArray = ls at hl ⊢
  have hl : lv_has ls 5 [(0, .ref (a 22)), (1, .int (sm))] := hl
  generalize hHe : s.heap = H at hP
  have hS : va_S A s.heap H [] := by rw [← hHe]; exact va_S.rf
  clear hHe
  generalize hLe : ([] : List Loc) = locs at hS ⊢
  clear hLe
  refine lv_iconst (v := nI (0)) hx hb dX1_chooseThree_0 (by decide) ?_
  refine lv_istore_n (lv' := [(2, .int (nI (0))), (0, .ref (a 22)), (1, .int (sm))]) hx hb dX1_chooseThree_1 rfl hl (by decide) rfl (fun ls hl => ?_)
  have loop2 : ∀ (fu : Nat) (i : Nat) (hin : i ≤ n) (hg : thr E sm n n 0 = thr E sm n (n - i) i) (hfu : n - i < fu) (H : Heap) (locs : List Loc) (hP : va_P D vwCl (wES a cI E) H) (hD : va_D A (wES a cI E)) (hS : va_S A s.heap H locs) (ls : Array Slot) (hl : lv_has ls 5 [(2, .int (nI (i))), (0, .ref (a 22)), (1, .int (sm))]), W p l e (headSpec wsX1_chooseThree ({ frames := 1, cells := 0, slots := 0, locals := 23 } : Room)).room s m ([.ref (a 22), .int (sm)] : List Value).toArray below meth c H locs 0 0 (MQ below (va_Qv (fun (u : Nat → Nat → Int32) => u = thrS E (thr E sm n n 0)) (fun (u : Nat → Nat → Int32) => PostW D cI cZ A (wES a cI u)) A) ([.ref (a 22), .int (sm)] : List Value).toArray s 0 0 A) (F0 m 2 ls []) := by
    clear hP hD hS hl
    intro fu2
    induction fu2 with
    | zero => intro i hin hg hfu; exact absurd hfu (Nat.not_lt_zero _)
    | succ fu2 ih2 =>
      intro i hin hg hfu H locs hP hD hS ls hl
      refine lv_iload_n hx hb dX1_chooseThree_2 rfl (lv_at hl 0 rfl) ?_
      refine lv_aload_n hx hb dX1_chooseThree_3 rfl (lv_at hl 1 rfl) ?_
      refine va_get (D := D) (ci := 1) (v := .int (nI (n))) (C := RX1) (T := TX1) (N := 4) hx hb hts (fun w h => List.mem_cons_of_mem _ (List.mem_append_right _ h)) hown hK hP 0 rfl rfl 3 (by decide) (hts (.fieldLink RX1 21 "CashAllocator$ExactSet" "count" "I") (by decide +kernel)) (fun _ h9 => h9) (congrArg (fun z => some (Value.int z)) hE) dX1_chooseThree_4 ?_
      refine lv_icmp_ge (tgt := 102) hx hb dX1_chooseThree_7 (by decide) (fun c7 => ?_) (fun c7 => ?_)
      · -- 7 taken
        rw [nI_leI (by omega) (by omega)] at c7
        have hfin : thr E sm n n 0 = none := by rw [hg, show n - i = 0 by omega]; rfl
        exact W.vret hx hb hr (fun t ht hW => ⟨⟨E, rfl, by rw [hfin]; rfl, by rw [ht]; exact hP, va_K.moved hW.alike hK, hD⟩, hS.F ht⟩) hS.2.2 dX1_chooseThree_102
      · -- 7 on
        rw [nI_leI (by omega) (by omega)] at c7
        have c7 : i < n := by omega
        have hk : n - i = (n - (i + 1)) + 1 := by omega
        rw [hk] at hg
        refine lv_iload_n hx hb dX1_chooseThree_10 rfl (lv_at hl 0 rfl) ?_
        refine lv_iconst (v := 1) hx hb dX1_chooseThree_11 (by decide) ?_
        refine lv_iadd hx hb dX1_chooseThree_12 ?_
        rw [nI_1]
        refine lv_istore_n (lv' := [(3, .int (nI (i + 1))), (2, .int (nI (i))), (0, .ref (a 22)), (1, .int (sm))]) hx hb dX1_chooseThree_13 rfl hl (by decide) rfl (fun ls hl => ?_)
        have loop14 : ∀ (fu : Nat) (j : Nat) (hjn : j ≤ n) (hij : i < j) (hg3 : thm E sm n i (n - (i + 1)) (i + 1) = thm E sm n i (n - j) j) (hfu : n - j < fu) (H : Heap) (locs : List Loc) (hP : va_P D vwCl (wES a cI E) H) (hD : va_D A (wES a cI E)) (hS : va_S A s.heap H locs) (ls : Array Slot) (hl : lv_has ls 5 [(3, .int (nI (j))), (2, .int (nI (i))), (0, .ref (a 22)), (1, .int (sm))]), W p l e (headSpec wsX1_chooseThree ({ frames := 1, cells := 0, slots := 0, locals := 23 } : Room)).room s m ([.ref (a 22), .int (sm)] : List Value).toArray below meth c H locs 0 0 (MQ below (va_Qv (fun (u : Nat → Nat → Int32) => u = thrS E (thr E sm n n 0)) (fun (u : Nat → Nat → Int32) => PostW D cI cZ A (wES a cI u)) A) ([.ref (a 22), .int (sm)] : List Value).toArray s 0 0 A) (F0 m 14 ls []) := by
          clear hP hD hS hl
          intro fu14
          induction fu14 with
          | zero => intro j hjn hij hg3 hfu; exact absurd hfu (Nat.not_lt_zero _)
          | succ fu14 ih14 =>
            intro j hjn hij hg3 hfu H locs hP hD hS ls hl
            refine lv_iload_n hx hb dX1_chooseThree_14 rfl (lv_at hl 0 rfl) ?_
            refine lv_aload_n hx hb dX1_chooseThree_15 rfl (lv_at hl 2 rfl) ?_
            refine va_get (D := D) (ci := 1) (v := .int (nI (n))) (C := RX1) (T := TX1) (N := 4) hx hb hts (fun w h => List.mem_cons_of_mem _ (List.mem_append_right _ h)) hown hK hP 0 rfl rfl 3 (by decide) (hts (.fieldLink RX1 21 "CashAllocator$ExactSet" "count" "I") (by decide +kernel)) (fun _ h9 => h9) (congrArg (fun z => some (Value.int z)) hE) dX1_chooseThree_16 ?_
            refine lv_icmp_ge (tgt := 96) hx hb dX1_chooseThree_19 (by decide) (fun c19 => ?_) (fun c19 => ?_)
            · -- 19 taken
              rw [nI_leI (by omega) (by omega)] at c19
              have hf : thm E sm n i (n - (i + 1)) (i + 1) = none := by rw [hg3, show n - j = 0 by omega]; rfl
              have hg2 : thr E sm n n 0 = thr E sm n (n - (i + 1)) (i + 1) := by rw [hg, thr, hf]
              refine lv_iinc (v := nI (i + 1)) (lv' := [(2, .int (nI (i + 1))), (3, .int (nI (j))), (0, .ref (a 22)), (1, .int (sm))]) hx hb dX1_chooseThree_96 hl (k := 1) rfl (nI_1 _) (by decide) rfl (fun ls hl => ?_)
              refine lv_goto (tgt := 2) hx hb dX1_chooseThree_99 (by decide) ?_
              exact ih2 (i + 1) (by omega) hg2 (by omega) _ _ hP hD hS _ (lv_sub hl [0, 2, 3] rfl)
            · -- 19 on
              rw [nI_leI (by omega) (by omega)] at c19
              have c19 : j < n := by omega
              have hk3 : n - j = (n - (j + 1)) + 1 := by omega
              rw [hk3] at hg3
              refine lv_aload_n hx hb dX1_chooseThree_22 rfl (lv_at hl 2 rfl) ?_
              refine lv_iload_n hx hb dX1_chooseThree_23 rfl (lv_at hl 3 rfl) ?_
              refine lv_aload_n hx hb dX1_chooseThree_24 rfl (lv_at hl 2 rfl) ?_
              refine va_get (D := D) (ci := 1) (v := .ref (a 24)) (C := RX1) (T := TX1) (N := 4) hx hb hts (fun w h => List.mem_cons_of_mem _ (List.mem_append_right _ h)) hown hK hP 0 rfl rfl 1 (by decide) (hts (.fieldLink RX1 15 "CashAllocator$ExactSet" "dues" "[I") (by decide +kernel)) (fun _ h9 => h9) rfl dX1_chooseThree_25 ?_
              refine lv_iload_n hx hb dX1_chooseThree_28 rfl (lv_at hl 1 rfl) ?_
              refine zald hx hb hK hP 2 (n := 40) (f := (E 1)) rfl (i) rfl (by omega) (by decide) dX1_chooseThree_29 ?_
              refine lv_isub hx hb dX1_chooseThree_30 ?_
              refine lv_aload_n hx hb dX1_chooseThree_31 rfl (lv_at hl 2 rfl) ?_
              refine va_get (D := D) (ci := 1) (v := .ref (a 24)) (C := RX1) (T := TX1) (N := 4) hx hb hts (fun w h => List.mem_cons_of_mem _ (List.mem_append_right _ h)) hown hK hP 0 rfl rfl 1 (by decide) (hts (.fieldLink RX1 15 "CashAllocator$ExactSet" "dues" "[I") (by decide +kernel)) (fun _ h9 => h9) rfl dX1_chooseThree_32 ?_
              refine lv_iload_n hx hb dX1_chooseThree_35 rfl (lv_at hl 0 rfl) ?_
              refine zald hx hb hK hP 2 (n := 40) (f := (E 1)) rfl (j) rfl (by omega) (by decide) dX1_chooseThree_36 ?_
              refine lv_isub hx hb dX1_chooseThree_37 ?_
              refine lv_iload_n hx hb dX1_chooseThree_38 rfl (lv_at hl 0 rfl) ?_
              refine lv_iconst (v := 1) hx hb dX1_chooseThree_39 (by decide) ?_
              refine lv_iadd hx hb dX1_chooseThree_40 ?_
              rw [nI_1]
              refine zcVi (ci := 1) (q0 := 0) (wf := (fun (u : Unit) => (wES a cI E))) (List.range 4) ⟨hx, hb, hml, hown, hts⟩ (zwAll 4 (by decide) rfl hP hD hS hA) hK (c_X1_find l D cI cZ a H.size (E) (((sm) - (E 1 (i))) - (E 1 (j))) (n) (j + 1) (by first | assumption | omega) (by first | assumption | omega) (by first | assumption | omega)) (cwV 2 hts gX1_chooseThree_X1_find rfl rfl rfl (by decide +kernel) ⟨Nat.le_of_ble_eq_true rfl, Nat.le_of_ble_eq_true rfl⟩) rfl rfl (by decide) (fun _ => rfl) rfl hl.1 rfl (Nat.le_of_ble_eq_true rfl) dX1_chooseThree_41 ⟨Nat.le_of_ble_eq_true rfl, Nat.le_of_ble_eq_true rfl⟩ (fun r41 u H locs hw hP hD hS => ?_)
              subst hw
              refine lv_istore (lv' := [(4, .int (oI (fnd ((E) 1) (((sm) - (E 1 (i))) - (E 1 (j))) (n - (j + 1)) (j + 1)))), (3, .int (nI (j))), (2, .int (nI (i))), (0, .ref (a 22)), (1, .int (sm))]) hx hb dX1_chooseThree_44 hl (by decide) rfl (fun ls hl => ?_)
              refine lv_iload hx hb dX1_chooseThree_46 (lv_at hl 0 rfl) ?_
              refine lv_iconst (v := (-1)) hx hb dX1_chooseThree_48 (by decide) ?_
              refine lv_icmp_eq (tgt := 90) hx hb dX1_chooseThree_49 (by decide) (fun c49 => ?_) (fun c49 => ?_)
              · -- 49 taken
                have hf := oI_n c49
                have hg4 : thm E sm n i (n - (i + 1)) (i + 1) = thm E sm n i (n - (j + 1)) (j + 1) := by rw [hg3, thm, hf]
                refine lv_iinc (v := nI (j + 1)) (lv' := [(3, .int (nI (j + 1))), (4, .int (oI (fnd ((E) 1) (((sm) - (E 1 (i))) - (E 1 (j))) (n - (j + 1)) (j + 1)))), (2, .int (nI (i))), (0, .ref (a 22)), (1, .int (sm))]) hx hb dX1_chooseThree_90 hl (k := 1) rfl (nI_1 _) (by decide) rfl (fun ls hl => ?_)
                refine lv_goto (tgt := 14) hx hb dX1_chooseThree_93 (by decide) ?_
                exact ih14 (j + 1) (by omega) (by omega) hg4 (by omega) _ _ hP hD hS _ (lv_sub hl [0, 2, 3, 4] rfl)
              · -- 49 on
                obtain ⟨q, hq⟩ := oI_y c49
                have gq := fnd_y hq
                rw [hq] at hl
                have hl : lv_has ls 5 [(4, .int (nI (q))), (3, .int (nI (j))), (2, .int (nI (i))), (0, .ref (a 22)), (1, .int (sm))] := hl
                refine lv_aload_n hx hb dX1_chooseThree_52 rfl (lv_at hl 3 rfl) ?_
                refine va_get (D := D) (ci := 1) (v := .ref (a 25)) (C := RX1) (T := TX1) (N := 4) hx hb hts (fun w h => List.mem_cons_of_mem _ (List.mem_append_right _ h)) hown hK hP 0 rfl rfl 2 (by decide) (hts (.fieldLink RX1 18 "CashAllocator$ExactSet" "chosen" "[I") (by decide +kernel)) (fun _ h9 => h9) rfl dX1_chooseThree_53 ?_
                refine lv_iconst (v := 0) hx hb dX1_chooseThree_56 (by decide) ?_
                refine lv_aload_n hx hb dX1_chooseThree_57 rfl (lv_at hl 3 rfl) ?_
                refine va_get (D := D) (ci := 1) (v := .ref (a 23)) (C := RX1) (T := TX1) (N := 4) hx hb hts (fun w h => List.mem_cons_of_mem _ (List.mem_append_right _ h)) hown hK hP 0 rfl rfl 0 (by decide) (hts (.fieldLink RX1 9 "CashAllocator$ExactSet" "offered" "[I") (by decide +kernel)) (fun _ h9 => h9) rfl dX1_chooseThree_58 ?_
                refine lv_iload_n hx hb dX1_chooseThree_61 rfl (lv_at hl 2 rfl) ?_
                refine zald hx hb hK hP 1 (n := 40) (f := (E 0)) rfl (i) rfl (by omega) (by decide) dX1_chooseThree_62 ?_
                refine zast hx hb hK hP hD hS 3 (n := 3) (f := (E 2)) rfl (0) rfl (by omega) (by decide) (wES a cI (pt E 2 (0) (E 0 (i)))) rfl dX1_chooseThree_63 (fun H locs hP hD hS => ?_)
                refine lv_aload_n hx hb dX1_chooseThree_64 rfl (lv_at hl 3 rfl) ?_
                refine va_get (D := D) (ci := 1) (v := .ref (a 25)) (C := RX1) (T := TX1) (N := 4) hx hb hts (fun w h => List.mem_cons_of_mem _ (List.mem_append_right _ h)) hown hK hP 0 rfl rfl 2 (by decide) (hts (.fieldLink RX1 18 "CashAllocator$ExactSet" "chosen" "[I") (by decide +kernel)) (fun _ h9 => h9) rfl dX1_chooseThree_65 ?_
                refine lv_iconst (v := 1) hx hb dX1_chooseThree_68 (by decide) ?_
                refine lv_aload_n hx hb dX1_chooseThree_69 rfl (lv_at hl 3 rfl) ?_
                refine va_get (D := D) (ci := 1) (v := .ref (a 23)) (C := RX1) (T := TX1) (N := 4) hx hb hts (fun w h => List.mem_cons_of_mem _ (List.mem_append_right _ h)) hown hK hP 0 rfl rfl 0 (by decide) (hts (.fieldLink RX1 9 "CashAllocator$ExactSet" "offered" "[I") (by decide +kernel)) (fun _ h9 => h9) rfl dX1_chooseThree_70 ?_
                refine lv_iload_n hx hb dX1_chooseThree_73 rfl (lv_at hl 1 rfl) ?_
                refine zald hx hb hK hP 1 (n := 40) (f := (E 0)) rfl (j) rfl (by omega) (by decide) dX1_chooseThree_74 ?_
                refine zast hx hb hK hP hD hS 3 (n := 3) (f := ((pt E 2 (0) (E 0 (i))) 2)) rfl (1) rfl (by omega) (by decide) (wES a cI (pt (pt E 2 (0) (E 0 (i))) 2 (1) (E 0 (j)))) rfl dX1_chooseThree_75 (fun H locs hP hD hS => ?_)
                refine lv_aload_n hx hb dX1_chooseThree_76 rfl (lv_at hl 3 rfl) ?_
                refine va_get (D := D) (ci := 1) (v := .ref (a 25)) (C := RX1) (T := TX1) (N := 4) hx hb hts (fun w h => List.mem_cons_of_mem _ (List.mem_append_right _ h)) hown hK hP 0 rfl rfl 2 (by decide) (hts (.fieldLink RX1 18 "CashAllocator$ExactSet" "chosen" "[I") (by decide +kernel)) (fun _ h9 => h9) rfl dX1_chooseThree_77 ?_
                refine lv_iconst (v := 2) hx hb dX1_chooseThree_80 (by decide) ?_
                refine lv_aload_n hx hb dX1_chooseThree_81 rfl (lv_at hl 3 rfl) ?_
                refine va_get (D := D) (ci := 1) (v := .ref (a 23)) (C := RX1) (T := TX1) (N := 4) hx hb hts (fun w h => List.mem_cons_of_mem _ (List.mem_append_right _ h)) hown hK hP 0 rfl rfl 0 (by decide) (hts (.fieldLink RX1 9 "CashAllocator$ExactSet" "offered" "[I") (by decide +kernel)) (fun _ h9 => h9) rfl dX1_chooseThree_82 ?_
                refine lv_iload hx hb dX1_chooseThree_85 (lv_at hl 0 rfl) ?_
                refine zald hx hb hK hP 1 (n := 40) (f := (E 0)) rfl (q) rfl (by omega) (by decide) dX1_chooseThree_87 ?_
                refine zast hx hb hK hP hD hS 3 (n := 3) (f := ((pt (pt E 2 (0) (E 0 (i))) 2 (1) (E 0 (j))) 2)) rfl (2) rfl (by omega) (by decide) (wES a cI (pt (pt (pt E 2 (0) (E 0 (i))) 2 (1) (E 0 (j))) 2 (2) (E 0 (q)))) rfl dX1_chooseThree_88 (fun H locs hP hD hS => ?_)
                have hf : thm E sm n i (n - (i + 1)) (i + 1) = some (j, q) := by rw [hg3, thm, hq]
                have hfin : thr E sm n n 0 = some (i, j, q) := by rw [hg, thr, hf]
                exact W.vret hx hb hr (fun t ht hW => ⟨⟨(pt (pt (pt E 2 (0) (E 0 (i))) 2 (1) (E 0 (j))) 2 (2) (E 0 (q))), rfl, by rw [hfin]; rfl, by rw [ht]; exact hP, va_K.moved hW.alike hK, hD⟩, hS.F ht⟩) hS.2.2 dX1_chooseThree_89
        exact loop14 _ (i + 1) (c7) (Nat.lt_succ_self _) (rfl) (Nat.lt_succ_self _) _ _ hP hD hS _ (lv_sub hl [0, 1, 2, 3] rfl)
  exact loop2 _ (0) (Nat.zero_le _) (by rw [Nat.sub_zero]) (Nat.lt_succ_self _) _ _ hP hD hS _ (lv_sub hl [0, 1, 2] rfl)
set_option maxHeartbeats 4000000 in
set_option maxRecDepth 100000 in
theorem c_X1_choose (l : Launch) (D : va_G) (cI cZ : ClassId) (a : Nat → Nat) (sz : Nat) (E : Nat → Nat → Int32) (sm : Int32) (n : Nat) (hE : E 3 0 = nI n) (hn : n ≤ 40) : Met l yX1_choose wsX1_choose ({ frames := 2, cells := 0, slots := 0, locals := 47 } : Room) (va_Pc [.ref (a 22), .int (sm)] (PreW D cI cZ (wES a cI E) sz)) (va_Qv (fun (u : Nat → Nat → Int32) => u = chE E sm n) (fun (u : Nat → Nat → Int32) => PostW D cI cZ (va_A (wES a cI E) sz) (wES a cI u)) (va_A (wES a cI E) sz)) 0 0 (va_A (wES a cI E) sz) := by
  refine Met.ofW (cc := cX1_choose) (maxL := 2) (ret := none) (by decide) rfl ?_
  intro p e s m args below meth c s₁ BB hml hv
  obtain ⟨rfl, hsz, hP, hK, hD0⟩ := hv
  have hx := BB.exec
  have hb := BB.bytes
  have hr := BB.returns
  have hts := atoms_spec (ws := wsX1_choose) BB.pre
  have hown : s.vm.findClass RX1 = some m.cls := findClass_of_methodNamed BB.named
  have hlocks := BB.notSynchronized
  clear BB
  subst hsz
  have hD := hD0.self (sz := s.heap.size)
  clear hD0
  generalize hAe : va_A (wES a cI E) s.heap.size = A at hD ⊢
  have hA : ∀ q : Nat, s.heap.size ≤ q → A q := fun q h => by rw [← hAe]; exact Or.inr h
  clear hAe
  have hS : va_S A s.heap s.heap [] := va_S.rf
  have hl := lv_entry ([.ref (a 22), .int (sm)]) (n := 2) (Nat.le_of_ble_eq_true rfl)
  rw [lg_entry_eq]
  generalize (lg_sl ([.ref (a 22), .int (sm)]) ++ List.replicate (2 - (lg_sl ([.ref (a 22), .int (sm)])).length) Slot.unset).toArray = ls at hl ⊢
  have hl : lv_has ls 2 [(0, .ref (a 22)), (1, .int (sm))] := hl
  generalize hHe : s.heap = H at hP
  have hS : va_S A s.heap H [] := by rw [← hHe]; exact va_S.rf
  clear hHe
  generalize hLe : ([] : List Loc) = locs at hS ⊢
  clear hLe
  refine lv_aload_n hx hb dX1_choose_0 rfl (lv_at hl 0 rfl) ?_
  refine lv_iload_n hx hb dX1_choose_1 rfl (lv_at hl 1 rfl) ?_
  refine zcVi (ci := 1) (q0 := 0) (wf := (fun (u : Nat → Nat → Int32) => (wES a cI u))) (List.range 4) ⟨hx, hb, hml, hown, hts⟩ (zwAll 4 (by decide) rfl hP hD hS hA) hK (c_X1_chooseOne l D cI cZ a H.size (E) (sm) (n) (by first | assumption | omega) (by first | assumption | omega)) (cwV 1 hts gX1_choose_X1_chooseOne rfl rfl rfl (by decide +kernel) ⟨Nat.le_of_ble_eq_true rfl, Nat.le_of_ble_eq_true rfl⟩) rfl rfl (by decide) (fun _ => rfl) rfl hl.1 rfl (Nat.le_of_ble_eq_true rfl) dX1_choose_2 ⟨Nat.le_of_ble_eq_true rfl, Nat.le_of_ble_eq_true rfl⟩ (fun r2 u H locs hw hP hD hS => ?_)
  obtain ⟨rfl, rfl⟩ := hw
  have hP : va_P D vwCl (wES a cI (oneS (E) (oneE (E) (sm) n))) H := hP
  have hD : va_D A (wES a cI (oneS (E) (oneE (E) (sm) n))) := hD
  refine lv_if_ne (tgt := 21) hx hb dX1_choose_5 (by decide) (fun c5 => ?_) (fun c5 => ?_)
  · -- 5 taken
    have c5 := b2_1 c5
    exact W.vret hx hb hr (fun t ht hW => ⟨⟨(oneS (E) (oneE (E) (sm) n)), rfl, by unfold chE; first | rw [if_pos c5] | rw [if_neg c5, if_pos c13] | rw [if_neg c5, if_neg c13], by rw [ht]; exact hP, va_K.moved hW.alike hK, hD⟩, hS.F ht⟩) hS.2.2 dX1_choose_21
  · -- 5 on
    have c5 := b2_0 c5
    have g1 : oneE E sm n = none := Classical.not_not.mp c5
    have hbk : (oneS (E) (oneE (E) (sm) n)) = E := by rw [g1]; rfl
    have hP : va_P D vwCl (wES a cI E) H := by rw [← hbk]; exact hP
    have hD : va_D A (wES a cI E) := by rw [← hbk]; exact hD
    refine lv_aload_n hx hb dX1_choose_8 rfl (lv_at hl 0 rfl) ?_
    refine lv_iload_n hx hb dX1_choose_9 rfl (lv_at hl 1 rfl) ?_
    refine zcVi (ci := 1) (q0 := 0) (wf := (fun (u : Nat → Nat → Int32) => (wES a cI u))) (List.range 4) ⟨hx, hb, hml, hown, hts⟩ (zwAll 4 (by decide) rfl hP hD hS hA) hK (c_X1_chooseTwo l D cI cZ a H.size (E) (sm) (n) (by first | assumption | omega) (by first | assumption | omega)) (cwV 1 hts gX1_choose_X1_chooseTwo rfl rfl rfl (by decide +kernel) ⟨Nat.le_of_ble_eq_true rfl, Nat.le_of_ble_eq_true rfl⟩) rfl rfl (by decide) (fun _ => rfl) rfl hl.1 rfl (Nat.le_of_ble_eq_true rfl) dX1_choose_10 ⟨Nat.le_of_ble_eq_true rfl, Nat.le_of_ble_eq_true rfl⟩ (fun r10 u H locs hw hP hD hS => ?_)
    obtain ⟨rfl, rfl⟩ := hw
    have hP : va_P D vwCl (wES a cI (twoS (E) (two (E) (sm) n n 0))) H := hP
    have hD : va_D A (wES a cI (twoS (E) (two (E) (sm) n n 0))) := hD
    refine lv_if_ne (tgt := 21) hx hb dX1_choose_13 (by decide) (fun c13 => ?_) (fun c13 => ?_)
    · -- 13 taken
      have c13 := b2_1 c13
      exact W.vret hx hb hr (fun t ht hW => ⟨⟨(twoS (E) (two (E) (sm) n n 0)), rfl, by unfold chE; first | rw [if_pos c5] | rw [if_neg c5, if_pos c13] | rw [if_neg c5, if_neg c13], by rw [ht]; exact hP, va_K.moved hW.alike hK, hD⟩, hS.F ht⟩) hS.2.2 dX1_choose_21
    · -- 13 on
      have c13 := b2_0 c13
      have g2 : two E sm n n 0 = none := Classical.not_not.mp c13
      have hbk : (twoS (E) (two (E) (sm) n n 0)) = E := by rw [g2]; rfl
      have hP : va_P D vwCl (wES a cI E) H := by rw [← hbk]; exact hP
      have hD : va_D A (wES a cI E) := by rw [← hbk]; exact hD
      refine lv_aload_n hx hb dX1_choose_16 rfl (lv_at hl 0 rfl) ?_
      refine lv_iload_n hx hb dX1_choose_17 rfl (lv_at hl 1 rfl) ?_
      refine zcVv (ci := 1) (q0 := 0) (wf := (fun (u : Nat → Nat → Int32) => (wES a cI u))) (List.range 4) ⟨hx, hb, hml, hown, hts⟩ (zwAll 4 (by decide) rfl hP hD hS hA) hK (c_X1_chooseThree l D cI cZ a H.size (E) (sm) (n) (by first | assumption | omega) (by first | assumption | omega)) (cwV 1 hts gX1_choose_X1_chooseThree rfl rfl rfl (by decide +kernel) ⟨Nat.le_of_ble_eq_true rfl, Nat.le_of_ble_eq_true rfl⟩) rfl rfl (by decide) (fun _ => rfl) rfl hl.1 rfl (Nat.le_of_ble_eq_true rfl) dX1_choose_18 ⟨Nat.le_of_ble_eq_true rfl, Nat.le_of_ble_eq_true rfl⟩ (fun u H locs hw hP hD hS => ?_)
      subst hw
      have hP : va_P D vwCl (wES a cI (thrS (E) (thr (E) (sm) n n 0))) H := hP
      have hD : va_D A (wES a cI (thrS (E) (thr (E) (sm) n n 0))) := hD
      exact W.vret hx hb hr (fun t ht hW => ⟨⟨(thrS (E) (thr (E) (sm) n n 0)), rfl, by unfold chE; first | rw [if_pos c5] | rw [if_neg c5, if_pos c13] | rw [if_neg c5, if_neg c13], by rw [ht]; exact hP, va_K.moved hW.alike hK, hD⟩, hS.F ht⟩) hS.2.2 dX1_choose_21
end
section
/-! Exceptions: what a start that may throw holds beside its world, and a throw and a throwing call as one row each. -/
abbrev eI : String := "java/lang/IndexOutOfBoundsException"
abbrev eA : String := "java/lang/IllegalArgumentException"
abbrev eS : String := "java/lang/IllegalStateException"
abbrev eNm : List String := ["java/lang/RuntimeException", "java/lang/Exception"]
def exD : List Cond := [.declares (Bundle.initS "java/lang/RuntimeException"), .declares (Bundle.initS "java/lang/Exception"), .declares (Bundle.initS Bundle.tN)]
def exC : List Cond := [.castable eI eI, .castable eA eA, .castable eS eS]
def exT : List (Nat × String) := [(48, "no more bills can be made"), (62, "no more receipts can come"), (83, "the receipt has a customer"), (88, "the receipt has no customer"), (90, "nothing of the receipt is unapplied"), (99, "something of the receipt was paid back"), (123, "nothing of the bill is disputed"), (147, "no such place in a set"), (152, "the sum is below 1"), (215, "no such customer"), (217, "no such bill"), (219, "no such receipt"), (221, "the receipt has bounced"), (223, "an argument is out of range")]
/-- the tables' words for a throw that no list of words carries -/
def ExB (U : State) : Prop := ((va_Nw (.declares (Bundle.initS "java/lang/RuntimeException")) U ∧ va_Nw (.declares (Bundle.initS "java/lang/Exception")) U ∧ va_Nw (.declares (Bundle.initS Bundle.tN)) U) ∧ va_Nw (.castable eI eI) U ∧ va_Nw (.castable eA eA) U ∧ va_Nw (.castable eS eS) U) ∧ (∀ k ∈ exT, ∃ sa, vk_R RX3 k.1 k.2 sa U) ∧ va_Nc eA eI U ∧ va_Nc eS eI U ∧ va_Nc eS eA U
def ExZ (A : Nat → Prop) (U : State) (H : Heap) : Prop := vx_Zq Bundle.tN "UNASSIGNED_STACK" Bundle.steD A U H ∧ vx_Zq Bundle.tN "SUPPRESSED_SENTINEL" Bundle.listD A U H
theorem ExB.warm {s U : State} (hW : s.WarmedH U.vm) (h : ExB s) : ExB U := by
  obtain ⟨⟨⟨a1, a2, a3⟩, a4, a5, a6⟩, b, c1, c2, c3⟩ := h
  exact ⟨⟨⟨va_Nw.warmD hW a1, va_Nw.warmD hW a2, va_Nw.warmD hW a3⟩, va_Nw.warmC hW a4, va_Nw.warmC hW a5, va_Nw.warmC hW a6⟩, fun k hk => (b k hk).imp fun sa h => vk_R.warm hW h, c1.moved hW.alike, c2.moved hW.alike, c3.moved hW.alike⟩
theorem ExB.same {u U : State} (hv : u.vm = U.vm) (h : ExB u) : ExB U := by
  obtain ⟨⟨⟨a1, a2, a3⟩, a4, a5, a6⟩, b, c1, c2, c3⟩ := h
  have hal : u.vm.Alike U.vm := by rw [hv]; exact Vm.Alike.refl _
  exact ⟨⟨⟨a1.same rfl hv, a2.same rfl hv, a3.same rfl hv⟩, a4.same rfl hv, a5.same rfl hv, a6.same rfl hv⟩, fun k hk => (b k hk).imp fun sa h => vk_R.same hv.symm h, c1.moved hal, c2.moved hal, c3.moved hal⟩
theorem ExZ.go {A B : Nat → Prop} {u U : State} {H H1 : Heap} (h : ExZ A u H) (hvm : u.vm.Alike U.vm) (hq : ∀ a : Nat, a < H.size → ¬ A a → H1[a]? = H[a]?) (hAB : ∀ q, B q → A q) : ExZ B U H1 := ⟨((vx_Zq.moved hvm h.1).kept hq).narrow hAB, ((vx_Zq.moved hvm h.2).kept hq).narrow hAB⟩
def PreX (D : va_G) (cI cZ : ClassId) (WS : va_W) (sz : Nat) (U : State) : Prop := PreW D cI cZ WS sz U ∧ ExB U ∧ ExZ (va_A WS sz) U U.heap
theorem PreX.blind {D : va_G} {cI cZ : ClassId} {WS : va_W} {sz : Nat} {av : List Value} : FrameBlind (va_Pc av (PreX D cI cZ WS sz)) := fun a U g mk q => by
  obtain ⟨q0, q1, q2, q3⟩ := q
  exact ⟨q0, (PreW.blind (av := av) a U g mk ⟨q0, q1⟩).2, q2.same rfl, q3.go (Vm.Alike.refl U.vm) (fun _ _ _ => rfl) (fun _ h => h)⟩
/-- a throw of E0 leaves the world as it was -/
abbrev XCw (D : va_G) (cI cZ : ClassId) (A : Nat → Prop) (WS : va_W) (E0 : String) : String → State → State → Prop := vx_X (fun (_ : Unit) => True) (fun E _ t => E = E0 ∧ PostW D cI cZ A WS t) A
abbrev QNo (A : Nat → Prop) : Array Value → State → Outcome → State → Prop := va_Qv (fun (_ : Unit) => False) (fun _ _ => True) A
theorem hgI : ∀ w ∈ Cond.classLink RX3 145 eI :: Cond.initialized eI :: vx_atS RX3 149 eI eNm, vx_ot w = true := by decide +kernel
theorem hgA : ∀ w ∈ Cond.classLink RX3 150 eA :: Cond.initialized eA :: vx_atS RX3 154 eA eNm, vx_ot w = true := by decide +kernel
theorem hgS : ∀ w ∈ Cond.classLink RX3 46 eS :: Cond.initialized eS :: vx_atS RX3 50 eS eNm, vx_ot w = true := by decide +kernel
theorem hbI : ∀ w ∈ (vx_atS RX3 149 eI eNm).filter (fun w => !goodWord w), w ∈ exD ++ exC := by decide +kernel
theorem hbA : ∀ w ∈ (vx_atS RX3 154 eA eNm).filter (fun w => !goodWord w), w ∈ exD ++ exC := by decide +kernel
theorem hbS : ∀ w ∈ (vx_atS RX3 50 eS eNm).filter (fun w => !goodWord w), w ∈ exD ++ exC := by decide +kernel
theorem ExB.words {s : State} (h : ExB s) {args : Array Value} : ∀ w ∈ exD ++ exC, w.before args s = true := by
  obtain ⟨⟨⟨a1, a2, a3⟩, a4, a5, a6⟩, -⟩ := h
  exact vx_c (a1.use rfl) (vx_c (a2.use rfl) (vx_c (a3.use rfl) (vx_c (a4.use rfl) (vx_c (a5.use rfl) (vx_c (a6.use rfl) vx_n)))))
section ZX
variable {p : Program} {l : Launch} {e : Env} {R : Room} {s : State} {m : MethodId} {args : Array Value} {below : List Frame} {meth : Method} {c : Code} {H : Heap} {locs : List Loc} {cells slots : Nat} {Q : State → Prop}
variable {y : MethodName} {bytes cc : ByteArray} {maxL nL mc ms n index : Nat} {ret : Option FieldType} {wsy : List Cond} {rm : Room} {Ts : List Cond} {own C : String} {b : Addr} {As rest st0 : List Value} {pc : Nat} {ls : Array Slot}
variable {D : va_G} {cI cZ : ClassId} {ws wc wr wf0 : va_W} {A : Nat → Prop} {H0 : Heap}
/-- throw new E(text) -/
theorem zthrow (hexec : p.tables.exec = Jvm.exec) (hb : c.code = cc) (hl : l.stackTraces = false) {cls text E0 : String} {ik is ic : Nat} (hfit : Bundle.fit cls = true) (hstr : (is, text) ∈ exT) (hE : cls = E0) (hown : s.vm.findClass RX3 = some m.cls)
    (hk : (Cond.classLink RX3 ik cls).before args s = true) (hini : (Cond.initialized cls).before args s = true) (hat : ∀ w ∈ (vx_atS RX3 ic cls eNm).filter goodWord, w.before args s = true)
    (hg : ∀ w ∈ Cond.classLink RX3 ik cls :: Cond.initialized cls :: vx_atS RX3 ic cls eNm, vx_ot w = true) (hbd : ∀ w ∈ (vx_atS RX3 ic cls eNm).filter (fun w => !goodWord w), w ∈ exD ++ exC)
    (hX : ExB s) (hZ : ExZ A s s.heap) (hK : va_K D vwCl (tyl cI cZ) s) (hP : va_P D vwCl ws H) (hD : va_D A ws) (hS : va_S A s.heap H locs) (hsize : ls.size = nL) (hml : c.maxLocals = nL)
    (d0 : decode cc pc = .ok (.new ik, 3)) (d3 : decode cc (pc + 3) = .ok (.dup, 1)) (hd : (decode cc (pc + 4) = .ok (.ldc is, 2) ∧ decode cc (pc + 6) = .ok (.invokespecial ic, 3) ∧ decode cc (pc + 9) = .ok (.athrow, 1)))
    (ht : ∀ x ∈ c.exceptionTable.toList, False) (hRf : 6 ≤ R.frames) (hRl : (rest.map fun v => v.category).sum + 82 ≤ R.locals) (hRc : cells + 1 ≤ R.cells ∧ slots + 6 ≤ R.slots) (hlocks : meth.locks = false) (hc : cells + 1 ≤ mc) (hs : slots + 6 ≤ ms) :
    W p l e R s m args below meth c H locs cells slots (vx_MQ below (QNo A) (XCw D cI cZ A ws E0) args s mc ms A) (F0 m pc ls rest) := by
  obtain ⟨sa, hR⟩ := hX.2.1 _ hstr
  subst hE
  refine vx_throwS hexec hb hl (names := eNm) hown hfit (by decide) hk hini hR (vx_hat hat hbd hX.words) hg hZ.1 hZ.2 hS (hsize.trans hml.symm) d0 d3 hd.1 hd.2.1 hd.2.2 (fun x hx => absurd (ht x hx) id) (by show 5 < R.frames; omega) (by show _ + 82 ≤ R.locals; exact hRl) hRc.1 hRc.2 hlocks (fun t hvm hz hq => ⟨(), trivial, ⟨rfl, ?_, va_K.moved hvm hK, hD⟩, ?_⟩) hS.2.2 hc hs
  · exact hP.kept fun k q h => hq q.1 (vx_lt hP h)
  · exact ⟨Nat.le_trans hS.1 hz, fun q h1 h2 => by rw [hq q (Nat.lt_of_lt_of_le h1 hS.1)]; exact hS.2.1 q h1 h2⟩
/-- a start of a callee that may throw -/
theorem zx_pre {isC isR : List Nat} (z : ZW D A s.heap ws wc wr H locs isC isR) (hK : va_K D vwCl (tyl cI cZ) s) (hX : ExB s) (hZ : ExZ A s s.heap) {U : State} (hU : U.heap = H) (hW : s.WarmedH U.vm) : PreX D cI cZ wc H.size U :=
  ⟨zw_pre z hK hU hW, hX.warm hW, by rw [hU]; exact hZ.go hW.alike z.2.2.1.2.1 (zw_free z)⟩
/-- a call that throws, virtual -/
theorem zxV {isC isR : List Nat} (ks : List Nat) {ci q0 : Nat} {q : vw_C} {fs : List Value} {E0 : String} (F : CallFix p m c cc nL s args Ts own) (z : ZW D A s.heap ws wc wr H locs isC isR) (hK : va_K D vwCl (tyl cI cZ) s) (hX : ExB s) (hZ : ExZ A s s.heap)
    (hM : vx_Met l y wsy rm (va_Pc (.ref b :: As) (PreX D cI cZ wc H.size)) (QNo (va_A wc H.size)) (XCw D cI cZ (va_A wc H.size) wc E0) 1 6 (va_A wc H.size))
    (cw : CallW R s args own q.1 index y bytes maxL ret wsy rm 1 6 n) (hc : vwCl[ci]? = some q) (he : wc[q0]? = some (b, .inr (ci, fs)))
    (hk2 : va_nd ks = true) (hks : ks.map (fun i => (wr ++ wc)[i]?) = ws.map some)
    (hn : As.length = n) (hl : ls.size = nL) (hst : st0 = As.reverse ++ .ref b :: rest) (hroom : (rest.map fun v => v.category).sum ≤ 8) (hdg : decode cc pc = .ok (.invokevirtual index, 3)) (hf : cells + 1 ≤ R.cells ∧ slots + 6 ≤ R.slots)
    (kx : ∀ (ce : Cell) (q9 : Addr) (H1 : Heap) (locs1 : List Loc), va_P D vwCl ws H1 → va_D A ws → va_S A s.heap H1 locs1 → H1[q9]? = some ce → ce.vm = .none → s.vm.findClass E0 = some ce.cls → vx_W p l e R s m args below meth c H1 locs1 (cells + 1) (slots + 6) Q (F0 m pc ls rest) q9) :
    W p l e R s m args below meth c H locs cells slots Q (F0 m pc ls st0) := by
  subst hst
  refine vx_callv (vx_runV (rest := rest) F hM cw ⟨PreX.blind, zw_recv z hK hc he, fun U hU hW => ⟨rfl, zx_pre z hK hX hZ hU hW⟩⟩ rfl hn hl rfl (lv_room hroom) hdg hf) z.2.2.1 (fun q _ h => zw_free z q h) (zw_free z) (fun q _ h => zw_free z q h) (fun E ce q9 u t H1 locs1 ht hvm hp hB hz1 hk1 hS hce hcv hcl => ?_) (fun u t H1 locs1 ht hvm hw => absurd hw id)
  obtain ⟨rfl, hP1, hK1, hD1⟩ := hB
  rw [ht] at hP1
  obtain ⟨h1, h2⟩ := wj z.1 z.2.1 isC isR ks z.2.2.2.2.2.2.2.1 z.2.2.2.2.2.2.2.2 z.2.2.2.2.2.1 z.2.2.2.2.2.2.1 hk2 hks hk1 (zw_free z) hP1 hD1
  exact kx ce q9 H1 locs1 h1 h2 hS hce hcv hcl
/-- a call that throws, static -/
theorem zxS {isC isR : List Nat} (ks : List Nat) {E0 : String} (F : CallFix p m c cc nL s args Ts own) (z : ZW D A s.heap ws wc wr H locs isC isR) (hK : va_K D vwCl (tyl cI cZ) s) (hX : ExB s) (hZ : ExZ A s s.heap)
    (hM : vx_Met l y wsy rm (va_Pc As (PreX D cI cZ wc H.size)) (QNo (va_A wc H.size)) (XCw D cI cZ (va_A wc H.size) wc E0) 1 6 (va_A wc H.size))
    (cw : CallB R s args own index y bytes maxL ret wsy rm 1 6 n ∧ (Cond.static y).before args s = true)
    (hk2 : va_nd ks = true) (hks : ks.map (fun i => (wr ++ wc)[i]?) = ws.map some)
    (hn : As.length = n) (hl : ls.size = nL) (hst : st0 = As.reverse ++ rest) (hroom : (rest.map fun v => v.category).sum ≤ 8) (hdg : decode cc pc = .ok (.invokestatic index, 3)) (hf : cells + 1 ≤ R.cells ∧ slots + 6 ≤ R.slots)
    (kx : ∀ (ce : Cell) (q9 : Addr) (H1 : Heap) (locs1 : List Loc), va_P D vwCl ws H1 → va_D A ws → va_S A s.heap H1 locs1 → H1[q9]? = some ce → ce.vm = .none → s.vm.findClass E0 = some ce.cls → vx_W p l e R s m args below meth c H1 locs1 (cells + 1) (slots + 6) Q (F0 m pc ls rest) q9) :
    W p l e R s m args below meth c H locs cells slots Q (F0 m pc ls st0) := by
  subst hst
  refine vx_callv (vx_runS (rest := rest) F hM cw ⟨PreX.blind, fun U hU hW => ⟨rfl, zx_pre z hK hX hZ hU hW⟩⟩ rfl hn hl rfl (lv_room hroom) hdg hf) z.2.2.1 (fun q _ h => zw_free z q h) (zw_free z) (fun q _ h => zw_free z q h) (fun E ce q9 u t H1 locs1 ht hvm hp hB hz1 hk1 hS hce hcv hcl => ?_) (fun u t H1 locs1 ht hvm hw => absurd hw id)
  obtain ⟨rfl, hP1, hK1, hD1⟩ := hB
  rw [ht] at hP1
  obtain ⟨h1, h2⟩ := wj z.1 z.2.1 isC isR ks z.2.2.2.2.2.2.2.1 z.2.2.2.2.2.2.2.2 z.2.2.2.2.2.1 z.2.2.2.2.2.2.1 hk2 hks hk1 (zw_free z) hP1 hD1
  exact kx ce q9 H1 locs1 h1 h2 hS hce hcv hcl
/-- it goes on to the caller -/
theorem zxo {E0 E1 : String} (hE : E1 = E0) (hK : va_K D vwCl (tyl cI cZ) s) (ht : ∀ x ∈ c.exceptionTable.toList, False) (hlocks : meth.locks = false) (hc : cells ≤ mc) (hs : slots ≤ ms) (ce : Cell) (q9 : Addr) (H1 : Heap) (locs1 : List Loc) (hP : va_P D vwCl ws H1) (hD : va_D A ws) (hS : va_S A s.heap H1 locs1) (hce : H1[q9]? = some ce) (hcv : ce.vm = .none) (hcl : s.vm.findClass E1 = some ce.cls) :
    vx_W p l e R s m args below meth c H1 locs1 cells slots (vx_MQ below (QNo A) (XCw D cI cZ A ws E0) args s mc ms A) (F0 m pc ls rest) q9 := by
  subst hE
  exact vx_out (fun x hx => absurd (ht x hx) id) hlocks hce hcv hcl (fun t h1 h2 => ⟨(), trivial, ⟨rfl, by rw [h1]; exact hP, va_K.moved h2 hK, hD⟩, hS.F h1⟩) hS.2.2 hc hs
end ZX
end
section
theorem dX3_init_0 : decode cX3_init 0 = .ok (.aload_n 0, 1) := by decide +kernel
theorem dX3_init_1 : decode cX3_init 1 = .ok (.invokespecial 1, 3) := by decide +kernel
theorem dX3_init_4 : decode cX3_init 4 = .ok (.aload_n 0, 1) := by decide +kernel
theorem dX3_init_5 : decode cX3_init 5 = .ok (.new 7, 3) := by decide +kernel
theorem dX3_init_8 : decode cX3_init 8 = .ok (.dup, 1) := by decide +kernel
theorem dX3_init_9 : decode cX3_init 9 = .ok (.invokespecial 9, 3) := by decide +kernel
theorem dX3_init_12 : decode cX3_init 12 = .ok (.putfield 10, 3) := by decide +kernel
theorem dX3_init_15 : decode cX3_init 15 = .ok (.aload_n 0, 1) := by decide +kernel
theorem dX3_init_16 : decode cX3_init 16 = .ok (.new 16, 3) := by decide +kernel
theorem dX3_init_19 : decode cX3_init 19 = .ok (.dup, 1) := by decide +kernel
theorem dX3_init_20 : decode cX3_init 20 = .ok (.invokespecial 18, 3) := by decide +kernel
theorem dX3_init_23 : decode cX3_init 23 = .ok (.putfield 19, 3) := by decide +kernel
theorem dX3_init_26 : decode cX3_init 26 = .ok (.aload_n 0, 1) := by decide +kernel
theorem dX3_init_27 : decode cX3_init 27 = .ok (.new 23, 3) := by decide +kernel
theorem dX3_init_30 : decode cX3_init 30 = .ok (.dup, 1) := by decide +kernel
theorem dX3_init_31 : decode cX3_init 31 = .ok (.invokespecial 25, 3) := by decide +kernel
theorem dX3_init_34 : decode cX3_init 34 = .ok (.putfield 26, 3) := by decide +kernel
theorem dX3_init_37 : decode cX3_init 37 = .ok (.aload_n 0, 1) := by decide +kernel
theorem dX3_init_38 : decode cX3_init 38 = .ok (.iconst 0, 1) := by decide +kernel
theorem dX3_init_39 : decode cX3_init 39 = .ok (.putfield 30, 3) := by decide +kernel
theorem dX3_init_42 : decode cX3_init 42 = .ok (.return_, 1) := by decide +kernel
theorem dX3_bill_0 : decode cX3_bill 0 = .ok (.iload_n 1, 1) := by decide +kernel
theorem dX3_bill_1 : decode cX3_bill 1 = .ok (.invokestatic 34, 3) := by decide +kernel
theorem dX3_bill_4 : decode cX3_bill 4 = .ok (.iload_n 2, 1) := by decide +kernel
theorem dX3_bill_5 : decode cX3_bill 5 = .ok (.iconst 1, 1) := by decide +kernel
theorem dX3_bill_6 : decode cX3_bill 6 = .ok (.ldc 38, 2) := by decide +kernel
theorem dX3_bill_8 : decode cX3_bill 8 = .ok (.invokestatic 39, 3) := by decide +kernel
theorem dX3_bill_11 : decode cX3_bill 11 = .ok (.iload_n 3, 1) := by decide +kernel
theorem dX3_bill_12 : decode cX3_bill 12 = .ok (.iconst 1, 1) := by decide +kernel
theorem dX3_bill_13 : decode cX3_bill 13 = .ok (.sipush 9999, 3) := by decide +kernel
theorem dX3_bill_16 : decode cX3_bill 16 = .ok (.invokestatic 39, 3) := by decide +kernel
theorem dX3_bill_19 : decode cX3_bill 19 = .ok (.iload 4, 2) := by decide +kernel
theorem dX3_bill_21 : decode cX3_bill 21 = .ok (.iconst 0, 1) := by decide +kernel
theorem dX3_bill_22 : decode cX3_bill 22 = .ok (.sipush 10000, 3) := by decide +kernel
theorem dX3_bill_25 : decode cX3_bill 25 = .ok (.invokestatic 39, 3) := by decide +kernel
theorem dX3_bill_28 : decode cX3_bill 28 = .ok (.iload 5, 2) := by decide +kernel
theorem dX3_bill_30 : decode cX3_bill 30 = .ok (.iconst 0, 1) := by decide +kernel
theorem dX3_bill_31 : decode cX3_bill 31 = .ok (.bipush 90, 2) := by decide +kernel
theorem dX3_bill_33 : decode cX3_bill 33 = .ok (.invokestatic 39, 3) := by decide +kernel
theorem dX3_bill_36 : decode cX3_bill 36 = .ok (.aload_n 0, 1) := by decide +kernel
theorem dX3_bill_37 : decode cX3_bill 37 = .ok (.getfield 10, 3) := by decide +kernel
theorem dX3_bill_40 : decode cX3_bill 40 = .ok (.getfield 43, 3) := by decide +kernel
theorem dX3_bill_43 : decode cX3_bill 43 = .ok (.bipush 40, 2) := by decide +kernel
theorem dX3_bill_45 : decode cX3_bill 45 = .ok (.if_icmp .lt 13, 3) := by decide +kernel
theorem dX3_bill_48 : decode cX3_bill 48 = .ok (.new 46, 3) := by decide +kernel
theorem dX3_bill_51 : decode cX3_bill 51 = .ok (.dup, 1) := by decide +kernel
theorem dX3_bill_52 : decode cX3_bill 52 = .ok (.ldc 48, 2) := by decide +kernel
theorem dX3_bill_54 : decode cX3_bill 54 = .ok (.invokespecial 50, 3) := by decide +kernel
theorem dX3_bill_57 : decode cX3_bill 57 = .ok (.athrow, 1) := by decide +kernel
theorem dX3_bill_58 : decode cX3_bill 58 = .ok (.aload_n 0, 1) := by decide +kernel
theorem dX3_bill_59 : decode cX3_bill 59 = .ok (.getfield 10, 3) := by decide +kernel
theorem dX3_bill_62 : decode cX3_bill 62 = .ok (.iload_n 1, 1) := by decide +kernel
theorem dX3_bill_63 : decode cX3_bill 63 = .ok (.iload_n 2, 1) := by decide +kernel
theorem dX3_bill_64 : decode cX3_bill 64 = .ok (.iload_n 3, 1) := by decide +kernel
theorem dX3_bill_65 : decode cX3_bill 65 = .ok (.iload_n 2, 1) := by decide +kernel
theorem dX3_bill_66 : decode cX3_bill 66 = .ok (.iload 4, 2) := by decide +kernel
theorem dX3_bill_68 : decode cX3_bill 68 = .ok (.invokestatic 53, 3) := by decide +kernel
theorem dX3_bill_71 : decode cX3_bill 71 = .ok (.aload_n 0, 1) := by decide +kernel
theorem dX3_bill_72 : decode cX3_bill 72 = .ok (.getfield 30, 3) := by decide +kernel
theorem dX3_bill_75 : decode cX3_bill 75 = .ok (.iload 5, 2) := by decide +kernel
theorem dX3_bill_77 : decode cX3_bill 77 = .ok (.iadd, 1) := by decide +kernel
theorem dX3_bill_78 : decode cX3_bill 78 = .ok (.invokevirtual 57, 3) := by decide +kernel
theorem dX3_bill_81 : decode cX3_bill 81 = .ok (.ireturn, 1) := by decide +kernel
theorem dX3_receive_0 : decode cX3_receive 0 = .ok (.iload_n 1, 1) := by decide +kernel
theorem dX3_receive_1 : decode cX3_receive 1 = .ok (.iconst (-1), 1) := by decide +kernel
theorem dX3_receive_2 : decode cX3_receive 2 = .ok (.if_icmp .eq 7, 3) := by decide +kernel
theorem dX3_receive_5 : decode cX3_receive 5 = .ok (.iload_n 1, 1) := by decide +kernel
theorem dX3_receive_6 : decode cX3_receive 6 = .ok (.invokestatic 34, 3) := by decide +kernel
theorem dX3_receive_9 : decode cX3_receive 9 = .ok (.iload_n 2, 1) := by decide +kernel
theorem dX3_receive_10 : decode cX3_receive 10 = .ok (.iconst 1, 1) := by decide +kernel
theorem dX3_receive_11 : decode cX3_receive 11 = .ok (.ldc 38, 2) := by decide +kernel
theorem dX3_receive_13 : decode cX3_receive 13 = .ok (.invokestatic 39, 3) := by decide +kernel
theorem dX3_receive_16 : decode cX3_receive 16 = .ok (.iload_n 3, 1) := by decide +kernel
theorem dX3_receive_17 : decode cX3_receive 17 = .ok (.iconst 0, 1) := by decide +kernel
theorem dX3_receive_18 : decode cX3_receive 18 = .ok (.sipush 9999, 3) := by decide +kernel
theorem dX3_receive_21 : decode cX3_receive 21 = .ok (.invokestatic 39, 3) := by decide +kernel
theorem dX3_receive_24 : decode cX3_receive 24 = .ok (.aload_n 0, 1) := by decide +kernel
theorem dX3_receive_25 : decode cX3_receive 25 = .ok (.getfield 19, 3) := by decide +kernel
theorem dX3_receive_28 : decode cX3_receive 28 = .ok (.getfield 61, 3) := by decide +kernel
theorem dX3_receive_31 : decode cX3_receive 31 = .ok (.bipush 30, 2) := by decide +kernel
theorem dX3_receive_33 : decode cX3_receive 33 = .ok (.if_icmp .lt 13, 3) := by decide +kernel
theorem dX3_receive_36 : decode cX3_receive 36 = .ok (.new 46, 3) := by decide +kernel
theorem dX3_receive_39 : decode cX3_receive 39 = .ok (.dup, 1) := by decide +kernel
theorem dX3_receive_40 : decode cX3_receive 40 = .ok (.ldc 62, 2) := by decide +kernel
theorem dX3_receive_42 : decode cX3_receive 42 = .ok (.invokespecial 50, 3) := by decide +kernel
theorem dX3_receive_45 : decode cX3_receive 45 = .ok (.athrow, 1) := by decide +kernel
theorem dX3_receive_46 : decode cX3_receive 46 = .ok (.aload_n 0, 1) := by decide +kernel
theorem dX3_receive_47 : decode cX3_receive 47 = .ok (.getfield 19, 3) := by decide +kernel
theorem dX3_receive_50 : decode cX3_receive 50 = .ok (.iload_n 1, 1) := by decide +kernel
theorem dX3_receive_51 : decode cX3_receive 51 = .ok (.iload_n 2, 1) := by decide +kernel
theorem dX3_receive_52 : decode cX3_receive 52 = .ok (.invokevirtual 64, 3) := by decide +kernel
theorem dX3_receive_55 : decode cX3_receive 55 = .ok (.istore 4, 2) := by decide +kernel
theorem dX3_receive_57 : decode cX3_receive 57 = .ok (.iload_n 3, 1) := by decide +kernel
theorem dX3_receive_58 : decode cX3_receive 58 = .ok (.ifCond .eq 10, 3) := by decide +kernel
theorem dX3_receive_61 : decode cX3_receive 61 = .ok (.aload_n 0, 1) := by decide +kernel
theorem dX3_receive_62 : decode cX3_receive 62 = .ok (.iload 4, 2) := by decide +kernel
theorem dX3_receive_64 : decode cX3_receive 64 = .ok (.iload_n 3, 1) := by decide +kernel
theorem dX3_receive_65 : decode cX3_receive 65 = .ok (.invokevirtual 66, 3) := by decide +kernel
theorem dX3_receive_68 : decode cX3_receive 68 = .ok (.aload_n 0, 1) := by decide +kernel
theorem dX3_receive_69 : decode cX3_receive 69 = .ok (.iload 4, 2) := by decide +kernel
theorem dX3_receive_71 : decode cX3_receive 71 = .ok (.invokevirtual 70, 3) := by decide +kernel
theorem dX3_receive_74 : decode cX3_receive 74 = .ok (.iload 4, 2) := by decide +kernel
theorem dX3_receive_76 : decode cX3_receive 76 = .ok (.ireturn, 1) := by decide +kernel
theorem dX3_assign_0 : decode cX3_assign 0 = .ok (.aload_n 0, 1) := by decide +kernel
theorem dX3_assign_1 : decode cX3_assign 1 = .ok (.iload_n 1, 1) := by decide +kernel
theorem dX3_assign_2 : decode cX3_assign 2 = .ok (.invokevirtual 73, 3) := by decide +kernel
theorem dX3_assign_5 : decode cX3_assign 5 = .ok (.iload_n 2, 1) := by decide +kernel
theorem dX3_assign_6 : decode cX3_assign 6 = .ok (.invokestatic 34, 3) := by decide +kernel
theorem dX3_assign_9 : decode cX3_assign 9 = .ok (.aload_n 0, 1) := by decide +kernel
theorem dX3_assign_10 : decode cX3_assign 10 = .ok (.iload_n 1, 1) := by decide +kernel
theorem dX3_assign_11 : decode cX3_assign 11 = .ok (.invokevirtual 76, 3) := by decide +kernel
theorem dX3_assign_14 : decode cX3_assign 14 = .ok (.aload_n 0, 1) := by decide +kernel
theorem dX3_assign_15 : decode cX3_assign 15 = .ok (.getfield 19, 3) := by decide +kernel
theorem dX3_assign_18 : decode cX3_assign 18 = .ok (.getfield 79, 3) := by decide +kernel
theorem dX3_assign_21 : decode cX3_assign 21 = .ok (.iload_n 1, 1) := by decide +kernel
theorem dX3_assign_22 : decode cX3_assign 22 = .ok (.iaload, 1) := by decide +kernel
theorem dX3_assign_23 : decode cX3_assign 23 = .ok (.iconst (-1), 1) := by decide +kernel
theorem dX3_assign_24 : decode cX3_assign 24 = .ok (.if_icmp .eq 13, 3) := by decide +kernel
theorem dX3_assign_27 : decode cX3_assign 27 = .ok (.new 46, 3) := by decide +kernel
theorem dX3_assign_30 : decode cX3_assign 30 = .ok (.dup, 1) := by decide +kernel
theorem dX3_assign_31 : decode cX3_assign 31 = .ok (.ldc 83, 2) := by decide +kernel
theorem dX3_assign_33 : decode cX3_assign 33 = .ok (.invokespecial 50, 3) := by decide +kernel
theorem dX3_assign_36 : decode cX3_assign 36 = .ok (.athrow, 1) := by decide +kernel
theorem dX3_assign_37 : decode cX3_assign 37 = .ok (.aload_n 0, 1) := by decide +kernel
theorem dX3_assign_38 : decode cX3_assign 38 = .ok (.getfield 19, 3) := by decide +kernel
theorem dX3_assign_41 : decode cX3_assign 41 = .ok (.getfield 79, 3) := by decide +kernel
theorem dX3_assign_44 : decode cX3_assign 44 = .ok (.iload_n 1, 1) := by decide +kernel
theorem dX3_assign_45 : decode cX3_assign 45 = .ok (.iload_n 2, 1) := by decide +kernel
theorem dX3_assign_46 : decode cX3_assign 46 = .ok (.iastore, 1) := by decide +kernel
theorem dX3_assign_47 : decode cX3_assign 47 = .ok (.aload_n 0, 1) := by decide +kernel
theorem dX3_assign_48 : decode cX3_assign 48 = .ok (.iload_n 1, 1) := by decide +kernel
theorem dX3_assign_49 : decode cX3_assign 49 = .ok (.invokevirtual 70, 3) := by decide +kernel
theorem dX3_assign_52 : decode cX3_assign 52 = .ok (.aload_n 0, 1) := by decide +kernel
theorem dX3_assign_53 : decode cX3_assign 53 = .ok (.getfield 19, 3) := by decide +kernel
theorem dX3_assign_56 : decode cX3_assign 56 = .ok (.getfield 85, 3) := by decide +kernel
theorem dX3_assign_59 : decode cX3_assign 59 = .ok (.iload_n 1, 1) := by decide +kernel
theorem dX3_assign_60 : decode cX3_assign 60 = .ok (.iaload, 1) := by decide +kernel
theorem dX3_assign_61 : decode cX3_assign 61 = .ok (.ireturn, 1) := by decide +kernel
theorem dX3_apply_0 : decode cX3_apply 0 = .ok (.aload_n 0, 1) := by decide +kernel
theorem dX3_apply_1 : decode cX3_apply 1 = .ok (.iload_n 1, 1) := by decide +kernel
theorem dX3_apply_2 : decode cX3_apply 2 = .ok (.invokevirtual 73, 3) := by decide +kernel
theorem dX3_apply_5 : decode cX3_apply 5 = .ok (.aload_n 0, 1) := by decide +kernel
theorem dX3_apply_6 : decode cX3_apply 6 = .ok (.iload_n 1, 1) := by decide +kernel
theorem dX3_apply_7 : decode cX3_apply 7 = .ok (.invokevirtual 76, 3) := by decide +kernel
theorem dX3_apply_10 : decode cX3_apply 10 = .ok (.aload_n 0, 1) := by decide +kernel
theorem dX3_apply_11 : decode cX3_apply 11 = .ok (.getfield 19, 3) := by decide +kernel
theorem dX3_apply_14 : decode cX3_apply 14 = .ok (.getfield 79, 3) := by decide +kernel
theorem dX3_apply_17 : decode cX3_apply 17 = .ok (.iload_n 1, 1) := by decide +kernel
theorem dX3_apply_18 : decode cX3_apply 18 = .ok (.iaload, 1) := by decide +kernel
theorem dX3_apply_19 : decode cX3_apply 19 = .ok (.iconst (-1), 1) := by decide +kernel
theorem dX3_apply_20 : decode cX3_apply 20 = .ok (.if_icmp .ne 13, 3) := by decide +kernel
theorem dX3_apply_23 : decode cX3_apply 23 = .ok (.new 46, 3) := by decide +kernel
theorem dX3_apply_26 : decode cX3_apply 26 = .ok (.dup, 1) := by decide +kernel
theorem dX3_apply_27 : decode cX3_apply 27 = .ok (.ldc 88, 2) := by decide +kernel
theorem dX3_apply_29 : decode cX3_apply 29 = .ok (.invokespecial 50, 3) := by decide +kernel
theorem dX3_apply_32 : decode cX3_apply 32 = .ok (.athrow, 1) := by decide +kernel
theorem dX3_apply_33 : decode cX3_apply 33 = .ok (.aload_n 0, 1) := by decide +kernel
theorem dX3_apply_34 : decode cX3_apply 34 = .ok (.iload_n 1, 1) := by decide +kernel
theorem dX3_apply_35 : decode cX3_apply 35 = .ok (.invokevirtual 70, 3) := by decide +kernel
theorem dX3_apply_38 : decode cX3_apply 38 = .ok (.aload_n 0, 1) := by decide +kernel
theorem dX3_apply_39 : decode cX3_apply 39 = .ok (.getfield 19, 3) := by decide +kernel
theorem dX3_apply_42 : decode cX3_apply 42 = .ok (.getfield 85, 3) := by decide +kernel
theorem dX3_apply_45 : decode cX3_apply 45 = .ok (.iload_n 1, 1) := by decide +kernel
theorem dX3_apply_46 : decode cX3_apply 46 = .ok (.iaload, 1) := by decide +kernel
theorem dX3_apply_47 : decode cX3_apply 47 = .ok (.ireturn, 1) := by decide +kernel
theorem dX3_payBack_0 : decode cX3_payBack 0 = .ok (.aload_n 0, 1) := by decide +kernel
theorem dX3_payBack_1 : decode cX3_payBack 1 = .ok (.iload_n 1, 1) := by decide +kernel
theorem dX3_payBack_2 : decode cX3_payBack 2 = .ok (.invokevirtual 73, 3) := by decide +kernel
theorem dX3_payBack_5 : decode cX3_payBack 5 = .ok (.aload_n 0, 1) := by decide +kernel
theorem dX3_payBack_6 : decode cX3_payBack 6 = .ok (.iload_n 1, 1) := by decide +kernel
theorem dX3_payBack_7 : decode cX3_payBack 7 = .ok (.invokevirtual 76, 3) := by decide +kernel
theorem dX3_payBack_10 : decode cX3_payBack 10 = .ok (.aload_n 0, 1) := by decide +kernel
theorem dX3_payBack_11 : decode cX3_payBack 11 = .ok (.getfield 19, 3) := by decide +kernel
theorem dX3_payBack_14 : decode cX3_payBack 14 = .ok (.getfield 85, 3) := by decide +kernel
theorem dX3_payBack_17 : decode cX3_payBack 17 = .ok (.iload_n 1, 1) := by decide +kernel
theorem dX3_payBack_18 : decode cX3_payBack 18 = .ok (.iaload, 1) := by decide +kernel
theorem dX3_payBack_19 : decode cX3_payBack 19 = .ok (.ifCond .ne 13, 3) := by decide +kernel
theorem dX3_payBack_22 : decode cX3_payBack 22 = .ok (.new 46, 3) := by decide +kernel
theorem dX3_payBack_25 : decode cX3_payBack 25 = .ok (.dup, 1) := by decide +kernel
theorem dX3_payBack_26 : decode cX3_payBack 26 = .ok (.ldc 90, 2) := by decide +kernel
theorem dX3_payBack_28 : decode cX3_payBack 28 = .ok (.invokespecial 50, 3) := by decide +kernel
theorem dX3_payBack_31 : decode cX3_payBack 31 = .ok (.athrow, 1) := by decide +kernel
theorem dX3_payBack_32 : decode cX3_payBack 32 = .ok (.aload_n 0, 1) := by decide +kernel
theorem dX3_payBack_33 : decode cX3_payBack 33 = .ok (.getfield 19, 3) := by decide +kernel
theorem dX3_payBack_36 : decode cX3_payBack 36 = .ok (.iload_n 1, 1) := by decide +kernel
theorem dX3_payBack_37 : decode cX3_payBack 37 = .ok (.invokevirtual 92, 3) := by decide +kernel
theorem dX3_payBack_40 : decode cX3_payBack 40 = .ok (.ireturn, 1) := by decide +kernel
theorem dX3_bounce_0 : decode cX3_bounce 0 = .ok (.aload_n 0, 1) := by decide +kernel
theorem dX3_bounce_1 : decode cX3_bounce 1 = .ok (.iload_n 1, 1) := by decide +kernel
theorem dX3_bounce_2 : decode cX3_bounce 2 = .ok (.invokevirtual 73, 3) := by decide +kernel
theorem dX3_bounce_5 : decode cX3_bounce 5 = .ok (.aload_n 0, 1) := by decide +kernel
theorem dX3_bounce_6 : decode cX3_bounce 6 = .ok (.iload_n 1, 1) := by decide +kernel
theorem dX3_bounce_7 : decode cX3_bounce 7 = .ok (.invokevirtual 76, 3) := by decide +kernel
theorem dX3_bounce_10 : decode cX3_bounce 10 = .ok (.aload_n 0, 1) := by decide +kernel
theorem dX3_bounce_11 : decode cX3_bounce 11 = .ok (.getfield 19, 3) := by decide +kernel
theorem dX3_bounce_14 : decode cX3_bounce 14 = .ok (.getfield 96, 3) := by decide +kernel
theorem dX3_bounce_17 : decode cX3_bounce 17 = .ok (.iload_n 1, 1) := by decide +kernel
theorem dX3_bounce_18 : decode cX3_bounce 18 = .ok (.iaload, 1) := by decide +kernel
theorem dX3_bounce_19 : decode cX3_bounce 19 = .ok (.ifCond .le 13, 3) := by decide +kernel
theorem dX3_bounce_22 : decode cX3_bounce 22 = .ok (.new 46, 3) := by decide +kernel
theorem dX3_bounce_25 : decode cX3_bounce 25 = .ok (.dup, 1) := by decide +kernel
theorem dX3_bounce_26 : decode cX3_bounce 26 = .ok (.ldc 99, 2) := by decide +kernel
theorem dX3_bounce_28 : decode cX3_bounce 28 = .ok (.invokespecial 50, 3) := by decide +kernel
theorem dX3_bounce_31 : decode cX3_bounce 31 = .ok (.athrow, 1) := by decide +kernel
theorem dX3_bounce_32 : decode cX3_bounce 32 = .ok (.iconst 0, 1) := by decide +kernel
theorem dX3_bounce_33 : decode cX3_bounce 33 = .ok (.istore_n 2, 1) := by decide +kernel
theorem dX3_bounce_34 : decode cX3_bounce 34 = .ok (.iconst 0, 1) := by decide +kernel
theorem dX3_bounce_35 : decode cX3_bounce 35 = .ok (.istore_n 3, 1) := by decide +kernel
theorem dX3_bounce_36 : decode cX3_bounce 36 = .ok (.iload_n 3, 1) := by decide +kernel
theorem dX3_bounce_37 : decode cX3_bounce 37 = .ok (.aload_n 0, 1) := by decide +kernel
theorem dX3_bounce_38 : decode cX3_bounce 38 = .ok (.getfield 10, 3) := by decide +kernel
theorem dX3_bounce_41 : decode cX3_bounce 41 = .ok (.getfield 43, 3) := by decide +kernel
theorem dX3_bounce_44 : decode cX3_bounce 44 = .ok (.if_icmp .ge 51, 3) := by decide +kernel
theorem dX3_bounce_47 : decode cX3_bounce 47 = .ok (.aload_n 0, 1) := by decide +kernel
theorem dX3_bounce_48 : decode cX3_bounce 48 = .ok (.getfield 19, 3) := by decide +kernel
theorem dX3_bounce_51 : decode cX3_bounce 51 = .ok (.iload_n 1, 1) := by decide +kernel
theorem dX3_bounce_52 : decode cX3_bounce 52 = .ok (.iload_n 3, 1) := by decide +kernel
theorem dX3_bounce_53 : decode cX3_bounce 53 = .ok (.invokevirtual 101, 3) := by decide +kernel
theorem dX3_bounce_56 : decode cX3_bounce 56 = .ok (.ifCond .eq 33, 3) := by decide +kernel
theorem dX3_bounce_59 : decode cX3_bounce 59 = .ok (.aload_n 0, 1) := by decide +kernel
theorem dX3_bounce_60 : decode cX3_bounce 60 = .ok (.getfield 10, 3) := by decide +kernel
theorem dX3_bounce_63 : decode cX3_bounce 63 = .ok (.iload_n 3, 1) := by decide +kernel
theorem dX3_bounce_64 : decode cX3_bounce 64 = .ok (.iload_n 1, 1) := by decide +kernel
theorem dX3_bounce_65 : decode cX3_bounce 65 = .ok (.aload_n 0, 1) := by decide +kernel
theorem dX3_bounce_66 : decode cX3_bounce 66 = .ok (.getfield 19, 3) := by decide +kernel
theorem dX3_bounce_69 : decode cX3_bounce 69 = .ok (.iload_n 1, 1) := by decide +kernel
theorem dX3_bounce_70 : decode cX3_bounce 70 = .ok (.iload_n 3, 1) := by decide +kernel
theorem dX3_bounce_71 : decode cX3_bounce 71 = .ok (.invokevirtual 105, 3) := by decide +kernel
theorem dX3_bounce_74 : decode cX3_bounce 74 = .ok (.invokevirtual 108, 3) := by decide +kernel
theorem dX3_bounce_77 : decode cX3_bounce 77 = .ok (.aload_n 0, 1) := by decide +kernel
theorem dX3_bounce_78 : decode cX3_bounce 78 = .ok (.getfield 19, 3) := by decide +kernel
theorem dX3_bounce_81 : decode cX3_bounce 81 = .ok (.iload_n 1, 1) := by decide +kernel
theorem dX3_bounce_82 : decode cX3_bounce 82 = .ok (.iload_n 3, 1) := by decide +kernel
theorem dX3_bounce_83 : decode cX3_bounce 83 = .ok (.invokevirtual 111, 3) := by decide +kernel
theorem dX3_bounce_86 : decode cX3_bounce 86 = .ok (.iinc 2 1, 3) := by decide +kernel
theorem dX3_bounce_89 : decode cX3_bounce 89 = .ok (.iinc 3 1, 3) := by decide +kernel
theorem dX3_bounce_92 : decode cX3_bounce 92 = .ok (.goto (-56), 3) := by decide +kernel
theorem dX3_bounce_95 : decode cX3_bounce 95 = .ok (.aload_n 0, 1) := by decide +kernel
theorem dX3_bounce_96 : decode cX3_bounce 96 = .ok (.getfield 19, 3) := by decide +kernel
theorem dX3_bounce_99 : decode cX3_bounce 99 = .ok (.iload_n 1, 1) := by decide +kernel
theorem dX3_bounce_100 : decode cX3_bounce 100 = .ok (.invokevirtual 114, 3) := by decide +kernel
theorem dX3_bounce_103 : decode cX3_bounce 103 = .ok (.iload_n 2, 1) := by decide +kernel
theorem dX3_bounce_104 : decode cX3_bounce 104 = .ok (.ireturn, 1) := by decide +kernel
theorem dX3_settle_0 : decode cX3_settle 0 = .ok (.aload_n 0, 1) := by decide +kernel
theorem dX3_settle_1 : decode cX3_settle 1 = .ok (.iload_n 1, 1) := by decide +kernel
theorem dX3_settle_2 : decode cX3_settle 2 = .ok (.invokevirtual 117, 3) := by decide +kernel
theorem dX3_settle_5 : decode cX3_settle 5 = .ok (.aload_n 0, 1) := by decide +kernel
theorem dX3_settle_6 : decode cX3_settle 6 = .ok (.getfield 10, 3) := by decide +kernel
theorem dX3_settle_9 : decode cX3_settle 9 = .ok (.getfield 120, 3) := by decide +kernel
theorem dX3_settle_12 : decode cX3_settle 12 = .ok (.iload_n 1, 1) := by decide +kernel
theorem dX3_settle_13 : decode cX3_settle 13 = .ok (.iaload, 1) := by decide +kernel
theorem dX3_settle_14 : decode cX3_settle 14 = .ok (.ifCond .ne 13, 3) := by decide +kernel
theorem dX3_settle_17 : decode cX3_settle 17 = .ok (.new 46, 3) := by decide +kernel
theorem dX3_settle_20 : decode cX3_settle 20 = .ok (.dup, 1) := by decide +kernel
theorem dX3_settle_21 : decode cX3_settle 21 = .ok (.ldc 123, 2) := by decide +kernel
theorem dX3_settle_23 : decode cX3_settle 23 = .ok (.invokespecial 50, 3) := by decide +kernel
theorem dX3_settle_26 : decode cX3_settle 26 = .ok (.athrow, 1) := by decide +kernel
theorem dX3_settle_27 : decode cX3_settle 27 = .ok (.aload_n 0, 1) := by decide +kernel
theorem dX3_settle_28 : decode cX3_settle 28 = .ok (.getfield 10, 3) := by decide +kernel
theorem dX3_settle_31 : decode cX3_settle 31 = .ok (.iload_n 1, 1) := by decide +kernel
theorem dX3_settle_32 : decode cX3_settle 32 = .ok (.iload_n 2, 1) := by decide +kernel
theorem dX3_settle_33 : decode cX3_settle 33 = .ok (.invokevirtual 125, 3) := by decide +kernel
theorem dX3_settle_36 : decode cX3_settle 36 = .ok (.ireturn, 1) := by decide +kernel
theorem dX3_advance_0 : decode cX3_advance 0 = .ok (.iload_n 1, 1) := by decide +kernel
theorem dX3_advance_1 : decode cX3_advance 1 = .ok (.iconst 1, 1) := by decide +kernel
theorem dX3_advance_2 : decode cX3_advance 2 = .ok (.bipush 100, 2) := by decide +kernel
theorem dX3_advance_4 : decode cX3_advance 4 = .ok (.invokestatic 39, 3) := by decide +kernel
theorem dX3_advance_7 : decode cX3_advance 7 = .ok (.aload_n 0, 1) := by decide +kernel
theorem dX3_advance_8 : decode cX3_advance 8 = .ok (.dup, 1) := by decide +kernel
theorem dX3_advance_9 : decode cX3_advance 9 = .ok (.getfield 30, 3) := by decide +kernel
theorem dX3_advance_12 : decode cX3_advance 12 = .ok (.iload_n 1, 1) := by decide +kernel
theorem dX3_advance_13 : decode cX3_advance 13 = .ok (.iadd, 1) := by decide +kernel
theorem dX3_advance_14 : decode cX3_advance 14 = .ok (.putfield 30, 3) := by decide +kernel
theorem dX3_advance_17 : decode cX3_advance 17 = .ok (.aload_n 0, 1) := by decide +kernel
theorem dX3_advance_18 : decode cX3_advance 18 = .ok (.getfield 30, 3) := by decide +kernel
theorem dX3_advance_21 : decode cX3_advance 21 = .ok (.ireturn, 1) := by decide +kernel
theorem dX3_bills_0 : decode cX3_bills 0 = .ok (.aload_n 0, 1) := by decide +kernel
theorem dX3_bills_1 : decode cX3_bills 1 = .ok (.getfield 10, 3) := by decide +kernel
theorem dX3_bills_4 : decode cX3_bills 4 = .ok (.getfield 43, 3) := by decide +kernel
theorem dX3_bills_7 : decode cX3_bills 7 = .ok (.ireturn, 1) := by decide +kernel
theorem dX3_open_0 : decode cX3_open 0 = .ok (.aload_n 0, 1) := by decide +kernel
theorem dX3_open_1 : decode cX3_open 1 = .ok (.iload_n 1, 1) := by decide +kernel
theorem dX3_open_2 : decode cX3_open 2 = .ok (.invokevirtual 117, 3) := by decide +kernel
theorem dX3_open_5 : decode cX3_open 5 = .ok (.aload_n 0, 1) := by decide +kernel
theorem dX3_open_6 : decode cX3_open 6 = .ok (.getfield 10, 3) := by decide +kernel
theorem dX3_open_9 : decode cX3_open 9 = .ok (.iload_n 1, 1) := by decide +kernel
theorem dX3_open_10 : decode cX3_open 10 = .ok (.invokevirtual 129, 3) := by decide +kernel
theorem dX3_open_13 : decode cX3_open 13 = .ok (.ireturn, 1) := by decide +kernel
theorem dX3_due_0 : decode cX3_due 0 = .ok (.aload_n 0, 1) := by decide +kernel
theorem dX3_due_1 : decode cX3_due 1 = .ok (.iload_n 1, 1) := by decide +kernel
theorem dX3_due_2 : decode cX3_due 2 = .ok (.invokevirtual 117, 3) := by decide +kernel
theorem dX3_due_5 : decode cX3_due 5 = .ok (.aload_n 0, 1) := by decide +kernel
theorem dX3_due_6 : decode cX3_due 6 = .ok (.getfield 10, 3) := by decide +kernel
theorem dX3_due_9 : decode cX3_due 9 = .ok (.iload_n 1, 1) := by decide +kernel
theorem dX3_due_10 : decode cX3_due 10 = .ok (.aload_n 0, 1) := by decide +kernel
theorem dX3_due_11 : decode cX3_due 11 = .ok (.getfield 30, 3) := by decide +kernel
theorem dX3_due_14 : decode cX3_due 14 = .ok (.invokevirtual 132, 3) := by decide +kernel
theorem dX3_due_17 : decode cX3_due 17 = .ok (.ireturn, 1) := by decide +kernel
theorem dX3_paid_0 : decode cX3_paid 0 = .ok (.aload_n 0, 1) := by decide +kernel
theorem dX3_paid_1 : decode cX3_paid 1 = .ok (.iload_n 1, 1) := by decide +kernel
theorem dX3_paid_2 : decode cX3_paid 2 = .ok (.invokevirtual 117, 3) := by decide +kernel
theorem dX3_paid_5 : decode cX3_paid 5 = .ok (.aload_n 0, 1) := by decide +kernel
theorem dX3_paid_6 : decode cX3_paid 6 = .ok (.getfield 10, 3) := by decide +kernel
theorem dX3_paid_9 : decode cX3_paid 9 = .ok (.getfield 135, 3) := by decide +kernel
theorem dX3_paid_12 : decode cX3_paid 12 = .ok (.iload_n 1, 1) := by decide +kernel
theorem dX3_paid_13 : decode cX3_paid 13 = .ok (.iaload, 1) := by decide +kernel
theorem dX3_paid_14 : decode cX3_paid 14 = .ok (.ireturn, 1) := by decide +kernel
theorem dX3_taken_0 : decode cX3_taken 0 = .ok (.aload_n 0, 1) := by decide +kernel
theorem dX3_taken_1 : decode cX3_taken 1 = .ok (.iload_n 1, 1) := by decide +kernel
theorem dX3_taken_2 : decode cX3_taken 2 = .ok (.invokevirtual 117, 3) := by decide +kernel
theorem dX3_taken_5 : decode cX3_taken 5 = .ok (.aload_n 0, 1) := by decide +kernel
theorem dX3_taken_6 : decode cX3_taken 6 = .ok (.getfield 10, 3) := by decide +kernel
theorem dX3_taken_9 : decode cX3_taken 9 = .ok (.getfield 138, 3) := by decide +kernel
theorem dX3_taken_12 : decode cX3_taken 12 = .ok (.iload_n 1, 1) := by decide +kernel
theorem dX3_taken_13 : decode cX3_taken 13 = .ok (.iaload, 1) := by decide +kernel
theorem dX3_taken_14 : decode cX3_taken 14 = .ok (.ireturn, 1) := by decide +kernel
theorem dX3_disputed_0 : decode cX3_disputed 0 = .ok (.aload_n 0, 1) := by decide +kernel
theorem dX3_disputed_1 : decode cX3_disputed 1 = .ok (.iload_n 1, 1) := by decide +kernel
theorem dX3_disputed_2 : decode cX3_disputed 2 = .ok (.invokevirtual 117, 3) := by decide +kernel
theorem dX3_disputed_5 : decode cX3_disputed 5 = .ok (.aload_n 0, 1) := by decide +kernel
theorem dX3_disputed_6 : decode cX3_disputed 6 = .ok (.getfield 10, 3) := by decide +kernel
theorem dX3_disputed_9 : decode cX3_disputed 9 = .ok (.getfield 120, 3) := by decide +kernel
theorem dX3_disputed_12 : decode cX3_disputed 12 = .ok (.iload_n 1, 1) := by decide +kernel
theorem dX3_disputed_13 : decode cX3_disputed 13 = .ok (.iaload, 1) := by decide +kernel
theorem dX3_disputed_14 : decode cX3_disputed 14 = .ok (.ireturn, 1) := by decide +kernel
theorem dX3_writtenOff_0 : decode cX3_writtenOff 0 = .ok (.aload_n 0, 1) := by decide +kernel
theorem dX3_writtenOff_1 : decode cX3_writtenOff 1 = .ok (.iload_n 1, 1) := by decide +kernel
theorem dX3_writtenOff_2 : decode cX3_writtenOff 2 = .ok (.invokevirtual 117, 3) := by decide +kernel
theorem dX3_writtenOff_5 : decode cX3_writtenOff 5 = .ok (.aload_n 0, 1) := by decide +kernel
theorem dX3_writtenOff_6 : decode cX3_writtenOff 6 = .ok (.getfield 10, 3) := by decide +kernel
theorem dX3_writtenOff_9 : decode cX3_writtenOff 9 = .ok (.getfield 141, 3) := by decide +kernel
theorem dX3_writtenOff_12 : decode cX3_writtenOff 12 = .ok (.iload_n 1, 1) := by decide +kernel
theorem dX3_writtenOff_13 : decode cX3_writtenOff 13 = .ok (.iaload, 1) := by decide +kernel
theorem dX3_writtenOff_14 : decode cX3_writtenOff 14 = .ok (.ireturn, 1) := by decide +kernel
theorem dX3_openOf_0 : decode cX3_openOf 0 = .ok (.iload_n 1, 1) := by decide +kernel
theorem dX3_openOf_1 : decode cX3_openOf 1 = .ok (.invokestatic 34, 3) := by decide +kernel
theorem dX3_openOf_4 : decode cX3_openOf 4 = .ok (.iconst 0, 1) := by decide +kernel
theorem dX3_openOf_5 : decode cX3_openOf 5 = .ok (.istore_n 2, 1) := by decide +kernel
theorem dX3_openOf_6 : decode cX3_openOf 6 = .ok (.iconst 0, 1) := by decide +kernel
theorem dX3_openOf_7 : decode cX3_openOf 7 = .ok (.istore_n 3, 1) := by decide +kernel
theorem dX3_openOf_8 : decode cX3_openOf 8 = .ok (.iload_n 3, 1) := by decide +kernel
theorem dX3_openOf_9 : decode cX3_openOf 9 = .ok (.aload_n 0, 1) := by decide +kernel
theorem dX3_openOf_10 : decode cX3_openOf 10 = .ok (.getfield 10, 3) := by decide +kernel
theorem dX3_openOf_13 : decode cX3_openOf 13 = .ok (.getfield 43, 3) := by decide +kernel
theorem dX3_openOf_16 : decode cX3_openOf 16 = .ok (.if_icmp .ge 33, 3) := by decide +kernel
theorem dX3_openOf_19 : decode cX3_openOf 19 = .ok (.aload_n 0, 1) := by decide +kernel
theorem dX3_openOf_20 : decode cX3_openOf 20 = .ok (.getfield 10, 3) := by decide +kernel
theorem dX3_openOf_23 : decode cX3_openOf 23 = .ok (.getfield 144, 3) := by decide +kernel
theorem dX3_openOf_26 : decode cX3_openOf 26 = .ok (.iload_n 3, 1) := by decide +kernel
theorem dX3_openOf_27 : decode cX3_openOf 27 = .ok (.iaload, 1) := by decide +kernel
theorem dX3_openOf_28 : decode cX3_openOf 28 = .ok (.iload_n 1, 1) := by decide +kernel
theorem dX3_openOf_29 : decode cX3_openOf 29 = .ok (.if_icmp .ne 14, 3) := by decide +kernel
theorem dX3_openOf_32 : decode cX3_openOf 32 = .ok (.iload_n 2, 1) := by decide +kernel
theorem dX3_openOf_33 : decode cX3_openOf 33 = .ok (.aload_n 0, 1) := by decide +kernel
theorem dX3_openOf_34 : decode cX3_openOf 34 = .ok (.getfield 10, 3) := by decide +kernel
theorem dX3_openOf_37 : decode cX3_openOf 37 = .ok (.iload_n 3, 1) := by decide +kernel
theorem dX3_openOf_38 : decode cX3_openOf 38 = .ok (.invokevirtual 129, 3) := by decide +kernel
theorem dX3_openOf_41 : decode cX3_openOf 41 = .ok (.iadd, 1) := by decide +kernel
theorem dX3_openOf_42 : decode cX3_openOf 42 = .ok (.istore_n 2, 1) := by decide +kernel
theorem dX3_openOf_43 : decode cX3_openOf 43 = .ok (.iinc 3 1, 3) := by decide +kernel
theorem dX3_openOf_46 : decode cX3_openOf 46 = .ok (.goto (-38), 3) := by decide +kernel
theorem dX3_openOf_49 : decode cX3_openOf 49 = .ok (.iload_n 2, 1) := by decide +kernel
theorem dX3_openOf_50 : decode cX3_openOf 50 = .ok (.ireturn, 1) := by decide +kernel
theorem dX3_setFor_0 : decode cX3_setFor 0 = .ok (.iload_n 1, 1) := by decide +kernel
theorem dX3_setFor_1 : decode cX3_setFor 1 = .ok (.invokestatic 34, 3) := by decide +kernel
theorem dX3_setFor_4 : decode cX3_setFor 4 = .ok (.iload_n 3, 1) := by decide +kernel
theorem dX3_setFor_5 : decode cX3_setFor 5 = .ok (.ifCond .lt 8, 3) := by decide +kernel
theorem dX3_setFor_8 : decode cX3_setFor 8 = .ok (.iload_n 3, 1) := by decide +kernel
theorem dX3_setFor_9 : decode cX3_setFor 9 = .ok (.iconst 3, 1) := by decide +kernel
theorem dX3_setFor_10 : decode cX3_setFor 10 = .ok (.if_icmp .lt 13, 3) := by decide +kernel
theorem dX3_setFor_13 : decode cX3_setFor 13 = .ok (.new 145, 3) := by decide +kernel
theorem dX3_setFor_16 : decode cX3_setFor 16 = .ok (.dup, 1) := by decide +kernel
theorem dX3_setFor_17 : decode cX3_setFor 17 = .ok (.ldc 147, 2) := by decide +kernel
theorem dX3_setFor_19 : decode cX3_setFor 19 = .ok (.invokespecial 149, 3) := by decide +kernel
theorem dX3_setFor_22 : decode cX3_setFor 22 = .ok (.athrow, 1) := by decide +kernel
theorem dX3_setFor_23 : decode cX3_setFor 23 = .ok (.iload_n 2, 1) := by decide +kernel
theorem dX3_setFor_24 : decode cX3_setFor 24 = .ok (.iconst 1, 1) := by decide +kernel
theorem dX3_setFor_25 : decode cX3_setFor 25 = .ok (.if_icmp .ge 13, 3) := by decide +kernel
theorem dX3_setFor_28 : decode cX3_setFor 28 = .ok (.new 150, 3) := by decide +kernel
theorem dX3_setFor_31 : decode cX3_setFor 31 = .ok (.dup, 1) := by decide +kernel
theorem dX3_setFor_32 : decode cX3_setFor 32 = .ok (.ldc 152, 2) := by decide +kernel
theorem dX3_setFor_34 : decode cX3_setFor 34 = .ok (.invokespecial 154, 3) := by decide +kernel
theorem dX3_setFor_37 : decode cX3_setFor 37 = .ok (.athrow, 1) := by decide +kernel
theorem dX3_setFor_38 : decode cX3_setFor 38 = .ok (.aload_n 0, 1) := by decide +kernel
theorem dX3_setFor_39 : decode cX3_setFor 39 = .ok (.iload_n 1, 1) := by decide +kernel
theorem dX3_setFor_40 : decode cX3_setFor 40 = .ok (.iload_n 2, 1) := by decide +kernel
theorem dX3_setFor_41 : decode cX3_setFor 41 = .ok (.invokevirtual 155, 3) := by decide +kernel
theorem dX3_setFor_44 : decode cX3_setFor 44 = .ok (.aload_n 0, 1) := by decide +kernel
theorem dX3_setFor_45 : decode cX3_setFor 45 = .ok (.getfield 26, 3) := by decide +kernel
theorem dX3_setFor_48 : decode cX3_setFor 48 = .ok (.getfield 158, 3) := by decide +kernel
theorem dX3_setFor_51 : decode cX3_setFor 51 = .ok (.iload_n 3, 1) := by decide +kernel
theorem dX3_setFor_52 : decode cX3_setFor 52 = .ok (.iaload, 1) := by decide +kernel
theorem dX3_setFor_53 : decode cX3_setFor 53 = .ok (.ireturn, 1) := by decide +kernel
theorem dX3_receipts_0 : decode cX3_receipts 0 = .ok (.aload_n 0, 1) := by decide +kernel
theorem dX3_receipts_1 : decode cX3_receipts 1 = .ok (.getfield 19, 3) := by decide +kernel
theorem dX3_receipts_4 : decode cX3_receipts 4 = .ok (.getfield 61, 3) := by decide +kernel
theorem dX3_receipts_7 : decode cX3_receipts 7 = .ok (.ireturn, 1) := by decide +kernel
theorem dX3_customerOf_0 : decode cX3_customerOf 0 = .ok (.aload_n 0, 1) := by decide +kernel
theorem dX3_customerOf_1 : decode cX3_customerOf 1 = .ok (.iload_n 1, 1) := by decide +kernel
theorem dX3_customerOf_2 : decode cX3_customerOf 2 = .ok (.invokevirtual 73, 3) := by decide +kernel
theorem dX3_customerOf_5 : decode cX3_customerOf 5 = .ok (.aload_n 0, 1) := by decide +kernel
theorem dX3_customerOf_6 : decode cX3_customerOf 6 = .ok (.getfield 19, 3) := by decide +kernel
theorem dX3_customerOf_9 : decode cX3_customerOf 9 = .ok (.getfield 79, 3) := by decide +kernel
theorem dX3_customerOf_12 : decode cX3_customerOf 12 = .ok (.iload_n 1, 1) := by decide +kernel
theorem dX3_customerOf_13 : decode cX3_customerOf 13 = .ok (.iaload, 1) := by decide +kernel
theorem dX3_customerOf_14 : decode cX3_customerOf 14 = .ok (.ireturn, 1) := by decide +kernel
theorem dX3_appliedTo_0 : decode cX3_appliedTo 0 = .ok (.aload_n 0, 1) := by decide +kernel
theorem dX3_appliedTo_1 : decode cX3_appliedTo 1 = .ok (.iload_n 1, 1) := by decide +kernel
theorem dX3_appliedTo_2 : decode cX3_appliedTo 2 = .ok (.invokevirtual 73, 3) := by decide +kernel
theorem dX3_appliedTo_5 : decode cX3_appliedTo 5 = .ok (.aload_n 0, 1) := by decide +kernel
theorem dX3_appliedTo_6 : decode cX3_appliedTo 6 = .ok (.iload_n 2, 1) := by decide +kernel
theorem dX3_appliedTo_7 : decode cX3_appliedTo 7 = .ok (.invokevirtual 117, 3) := by decide +kernel
theorem dX3_appliedTo_10 : decode cX3_appliedTo 10 = .ok (.aload_n 0, 1) := by decide +kernel
theorem dX3_appliedTo_11 : decode cX3_appliedTo 11 = .ok (.getfield 19, 3) := by decide +kernel
theorem dX3_appliedTo_14 : decode cX3_appliedTo 14 = .ok (.iload_n 1, 1) := by decide +kernel
theorem dX3_appliedTo_15 : decode cX3_appliedTo 15 = .ok (.iload_n 2, 1) := by decide +kernel
theorem dX3_appliedTo_16 : decode cX3_appliedTo 16 = .ok (.invokevirtual 105, 3) := by decide +kernel
theorem dX3_appliedTo_19 : decode cX3_appliedTo 19 = .ok (.ireturn, 1) := by decide +kernel
theorem dX3_unapplied_0 : decode cX3_unapplied 0 = .ok (.aload_n 0, 1) := by decide +kernel
theorem dX3_unapplied_1 : decode cX3_unapplied 1 = .ok (.iload_n 1, 1) := by decide +kernel
theorem dX3_unapplied_2 : decode cX3_unapplied 2 = .ok (.invokevirtual 73, 3) := by decide +kernel
theorem dX3_unapplied_5 : decode cX3_unapplied 5 = .ok (.aload_n 0, 1) := by decide +kernel
theorem dX3_unapplied_6 : decode cX3_unapplied 6 = .ok (.getfield 19, 3) := by decide +kernel
theorem dX3_unapplied_9 : decode cX3_unapplied 9 = .ok (.getfield 85, 3) := by decide +kernel
theorem dX3_unapplied_12 : decode cX3_unapplied 12 = .ok (.iload_n 1, 1) := by decide +kernel
theorem dX3_unapplied_13 : decode cX3_unapplied 13 = .ok (.iaload, 1) := by decide +kernel
theorem dX3_unapplied_14 : decode cX3_unapplied 14 = .ok (.ireturn, 1) := by decide +kernel
theorem dX3_hasBounced_0 : decode cX3_hasBounced 0 = .ok (.aload_n 0, 1) := by decide +kernel
theorem dX3_hasBounced_1 : decode cX3_hasBounced 1 = .ok (.iload_n 1, 1) := by decide +kernel
theorem dX3_hasBounced_2 : decode cX3_hasBounced 2 = .ok (.invokevirtual 73, 3) := by decide +kernel
theorem dX3_hasBounced_5 : decode cX3_hasBounced 5 = .ok (.aload_n 0, 1) := by decide +kernel
theorem dX3_hasBounced_6 : decode cX3_hasBounced 6 = .ok (.getfield 19, 3) := by decide +kernel
theorem dX3_hasBounced_9 : decode cX3_hasBounced 9 = .ok (.getfield 161, 3) := by decide +kernel
theorem dX3_hasBounced_12 : decode cX3_hasBounced 12 = .ok (.iload_n 1, 1) := by decide +kernel
theorem dX3_hasBounced_13 : decode cX3_hasBounced 13 = .ok (.baload, 1) := by decide +kernel
theorem dX3_hasBounced_14 : decode cX3_hasBounced 14 = .ok (.ireturn, 1) := by decide +kernel
theorem dX3_day_0 : decode cX3_day 0 = .ok (.aload_n 0, 1) := by decide +kernel
theorem dX3_day_1 : decode cX3_day 1 = .ok (.getfield 30, 3) := by decide +kernel
theorem dX3_day_4 : decode cX3_day 4 = .ok (.ireturn, 1) := by decide +kernel
theorem dX3_received_0 : decode cX3_received 0 = .ok (.aload_n 0, 1) := by decide +kernel
theorem dX3_received_1 : decode cX3_received 1 = .ok (.getfield 19, 3) := by decide +kernel
theorem dX3_received_4 : decode cX3_received 4 = .ok (.aload_n 0, 1) := by decide +kernel
theorem dX3_received_5 : decode cX3_received 5 = .ok (.getfield 19, 3) := by decide +kernel
theorem dX3_received_8 : decode cX3_received 8 = .ok (.getfield 165, 3) := by decide +kernel
theorem dX3_received_11 : decode cX3_received 11 = .ok (.invokevirtual 168, 3) := by decide +kernel
theorem dX3_received_14 : decode cX3_received 14 = .ok (.ireturn, 1) := by decide +kernel
theorem dX3_applied_0 : decode cX3_applied 0 = .ok (.aload_n 0, 1) := by decide +kernel
theorem dX3_applied_1 : decode cX3_applied 1 = .ok (.getfield 19, 3) := by decide +kernel
theorem dX3_applied_4 : decode cX3_applied 4 = .ok (.aload_n 0, 1) := by decide +kernel
theorem dX3_applied_5 : decode cX3_applied 5 = .ok (.getfield 19, 3) := by decide +kernel
theorem dX3_applied_8 : decode cX3_applied 8 = .ok (.getfield 172, 3) := by decide +kernel
theorem dX3_applied_11 : decode cX3_applied 11 = .ok (.invokevirtual 168, 3) := by decide +kernel
theorem dX3_applied_14 : decode cX3_applied 14 = .ok (.ireturn, 1) := by decide +kernel
theorem dX3_allUnapplied_0 : decode cX3_allUnapplied 0 = .ok (.aload_n 0, 1) := by decide +kernel
theorem dX3_allUnapplied_1 : decode cX3_allUnapplied 1 = .ok (.getfield 19, 3) := by decide +kernel
theorem dX3_allUnapplied_4 : decode cX3_allUnapplied 4 = .ok (.aload_n 0, 1) := by decide +kernel
theorem dX3_allUnapplied_5 : decode cX3_allUnapplied 5 = .ok (.getfield 19, 3) := by decide +kernel
theorem dX3_allUnapplied_8 : decode cX3_allUnapplied 8 = .ok (.getfield 85, 3) := by decide +kernel
theorem dX3_allUnapplied_11 : decode cX3_allUnapplied 11 = .ok (.invokevirtual 168, 3) := by decide +kernel
theorem dX3_allUnapplied_14 : decode cX3_allUnapplied 14 = .ok (.ireturn, 1) := by decide +kernel
theorem dX3_paidBack_0 : decode cX3_paidBack 0 = .ok (.aload_n 0, 1) := by decide +kernel
theorem dX3_paidBack_1 : decode cX3_paidBack 1 = .ok (.getfield 19, 3) := by decide +kernel
theorem dX3_paidBack_4 : decode cX3_paidBack 4 = .ok (.aload_n 0, 1) := by decide +kernel
theorem dX3_paidBack_5 : decode cX3_paidBack 5 = .ok (.getfield 19, 3) := by decide +kernel
theorem dX3_paidBack_8 : decode cX3_paidBack 8 = .ok (.getfield 96, 3) := by decide +kernel
theorem dX3_paidBack_11 : decode cX3_paidBack 11 = .ok (.invokevirtual 168, 3) := by decide +kernel
theorem dX3_paidBack_14 : decode cX3_paidBack 14 = .ok (.ireturn, 1) := by decide +kernel
theorem dX3_bounced_0 : decode cX3_bounced 0 = .ok (.aload_n 0, 1) := by decide +kernel
theorem dX3_bounced_1 : decode cX3_bounced 1 = .ok (.getfield 19, 3) := by decide +kernel
theorem dX3_bounced_4 : decode cX3_bounced 4 = .ok (.invokevirtual 175, 3) := by decide +kernel
theorem dX3_bounced_7 : decode cX3_bounced 7 = .ok (.ireturn, 1) := by decide +kernel
theorem dX3_payNamedBills_0 : decode cX3_payNamedBills 0 = .ok (.aload_n 0, 1) := by decide +kernel
theorem dX3_payNamedBills_1 : decode cX3_payNamedBills 1 = .ok (.getfield 19, 3) := by decide +kernel
theorem dX3_payNamedBills_4 : decode cX3_payNamedBills 4 = .ok (.getfield 79, 3) := by decide +kernel
theorem dX3_payNamedBills_7 : decode cX3_payNamedBills 7 = .ok (.iload_n 1, 1) := by decide +kernel
theorem dX3_payNamedBills_8 : decode cX3_payNamedBills 8 = .ok (.iaload, 1) := by decide +kernel
theorem dX3_payNamedBills_9 : decode cX3_payNamedBills 9 = .ok (.iconst (-1), 1) := by decide +kernel
theorem dX3_payNamedBills_10 : decode cX3_payNamedBills 10 = .ok (.if_icmp .ne 20, 3) := by decide +kernel
theorem dX3_payNamedBills_13 : decode cX3_payNamedBills 13 = .ok (.aload_n 0, 1) := by decide +kernel
theorem dX3_payNamedBills_14 : decode cX3_payNamedBills 14 = .ok (.getfield 19, 3) := by decide +kernel
theorem dX3_payNamedBills_17 : decode cX3_payNamedBills 17 = .ok (.getfield 79, 3) := by decide +kernel
theorem dX3_payNamedBills_20 : decode cX3_payNamedBills 20 = .ok (.iload_n 1, 1) := by decide +kernel
theorem dX3_payNamedBills_21 : decode cX3_payNamedBills 21 = .ok (.aload_n 0, 1) := by decide +kernel
theorem dX3_payNamedBills_22 : decode cX3_payNamedBills 22 = .ok (.getfield 10, 3) := by decide +kernel
theorem dX3_payNamedBills_25 : decode cX3_payNamedBills 25 = .ok (.iload_n 2, 1) := by decide +kernel
theorem dX3_payNamedBills_26 : decode cX3_payNamedBills 26 = .ok (.invokevirtual 179, 3) := by decide +kernel
theorem dX3_payNamedBills_29 : decode cX3_payNamedBills 29 = .ok (.iastore, 1) := by decide +kernel
theorem dX3_payNamedBills_30 : decode cX3_payNamedBills 30 = .ok (.aload_n 0, 1) := by decide +kernel
theorem dX3_payNamedBills_31 : decode cX3_payNamedBills 31 = .ok (.getfield 19, 3) := by decide +kernel
theorem dX3_payNamedBills_34 : decode cX3_payNamedBills 34 = .ok (.getfield 79, 3) := by decide +kernel
theorem dX3_payNamedBills_37 : decode cX3_payNamedBills 37 = .ok (.iload_n 1, 1) := by decide +kernel
theorem dX3_payNamedBills_38 : decode cX3_payNamedBills 38 = .ok (.iaload, 1) := by decide +kernel
theorem dX3_payNamedBills_39 : decode cX3_payNamedBills 39 = .ok (.istore_n 3, 1) := by decide +kernel
theorem dX3_payNamedBills_40 : decode cX3_payNamedBills 40 = .ok (.iconst 0, 1) := by decide +kernel
theorem dX3_payNamedBills_41 : decode cX3_payNamedBills 41 = .ok (.istore 4, 2) := by decide +kernel
theorem dX3_payNamedBills_43 : decode cX3_payNamedBills 43 = .ok (.iload 4, 2) := by decide +kernel
theorem dX3_payNamedBills_45 : decode cX3_payNamedBills 45 = .ok (.aload_n 0, 1) := by decide +kernel
theorem dX3_payNamedBills_46 : decode cX3_payNamedBills 46 = .ok (.getfield 10, 3) := by decide +kernel
theorem dX3_payNamedBills_49 : decode cX3_payNamedBills 49 = .ok (.getfield 43, 3) := by decide +kernel
theorem dX3_payNamedBills_52 : decode cX3_payNamedBills 52 = .ok (.if_icmp .ge 72, 3) := by decide +kernel
theorem dX3_payNamedBills_55 : decode cX3_payNamedBills 55 = .ok (.aload_n 0, 1) := by decide +kernel
theorem dX3_payNamedBills_56 : decode cX3_payNamedBills 56 = .ok (.getfield 19, 3) := by decide +kernel
theorem dX3_payNamedBills_59 : decode cX3_payNamedBills 59 = .ok (.getfield 85, 3) := by decide +kernel
theorem dX3_payNamedBills_62 : decode cX3_payNamedBills 62 = .ok (.iload_n 1, 1) := by decide +kernel
theorem dX3_payNamedBills_63 : decode cX3_payNamedBills 63 = .ok (.iaload, 1) := by decide +kernel
theorem dX3_payNamedBills_64 : decode cX3_payNamedBills 64 = .ok (.ifCond .le 60, 3) := by decide +kernel
theorem dX3_payNamedBills_67 : decode cX3_payNamedBills 67 = .ok (.aload_n 0, 1) := by decide +kernel
theorem dX3_payNamedBills_68 : decode cX3_payNamedBills 68 = .ok (.getfield 10, 3) := by decide +kernel
theorem dX3_payNamedBills_71 : decode cX3_payNamedBills 71 = .ok (.iload 4, 2) := by decide +kernel
theorem dX3_payNamedBills_73 : decode cX3_payNamedBills 73 = .ok (.iload_n 3, 1) := by decide +kernel
theorem dX3_payNamedBills_74 : decode cX3_payNamedBills 74 = .ok (.invokevirtual 182, 3) := by decide +kernel
theorem dX3_payNamedBills_77 : decode cX3_payNamedBills 77 = .ok (.ifCond .eq 41, 3) := by decide +kernel
theorem dX3_payNamedBills_80 : decode cX3_payNamedBills 80 = .ok (.aload_n 0, 1) := by decide +kernel
theorem dX3_payNamedBills_81 : decode cX3_payNamedBills 81 = .ok (.getfield 10, 3) := by decide +kernel
theorem dX3_payNamedBills_84 : decode cX3_payNamedBills 84 = .ok (.getfield 185, 3) := by decide +kernel
theorem dX3_payNamedBills_87 : decode cX3_payNamedBills 87 = .ok (.iload 4, 2) := by decide +kernel
theorem dX3_payNamedBills_89 : decode cX3_payNamedBills 89 = .ok (.iaload, 1) := by decide +kernel
theorem dX3_payNamedBills_90 : decode cX3_payNamedBills 90 = .ok (.iload_n 2, 1) := by decide +kernel
theorem dX3_payNamedBills_91 : decode cX3_payNamedBills 91 = .ok (.if_icmp .ne 27, 3) := by decide +kernel
theorem dX3_payNamedBills_94 : decode cX3_payNamedBills 94 = .ok (.aload_n 0, 1) := by decide +kernel
theorem dX3_payNamedBills_95 : decode cX3_payNamedBills 95 = .ok (.iload_n 1, 1) := by decide +kernel
theorem dX3_payNamedBills_96 : decode cX3_payNamedBills 96 = .ok (.iload 4, 2) := by decide +kernel
theorem dX3_payNamedBills_98 : decode cX3_payNamedBills 98 = .ok (.invokevirtual 188, 3) := by decide +kernel
theorem dX3_payNamedBills_101 : decode cX3_payNamedBills 101 = .ok (.istore 5, 2) := by decide +kernel
theorem dX3_payNamedBills_103 : decode cX3_payNamedBills 103 = .ok (.iload 5, 2) := by decide +kernel
theorem dX3_payNamedBills_105 : decode cX3_payNamedBills 105 = .ok (.ifCond .ne 13, 3) := by decide +kernel
theorem dX3_payNamedBills_108 : decode cX3_payNamedBills 108 = .ok (.aload_n 0, 1) := by decide +kernel
theorem dX3_payNamedBills_109 : decode cX3_payNamedBills 109 = .ok (.getfield 10, 3) := by decide +kernel
theorem dX3_payNamedBills_112 : decode cX3_payNamedBills 112 = .ok (.iload 4, 2) := by decide +kernel
theorem dX3_payNamedBills_114 : decode cX3_payNamedBills 114 = .ok (.iload_n 1, 1) := by decide +kernel
theorem dX3_payNamedBills_115 : decode cX3_payNamedBills 115 = .ok (.invokevirtual 191, 3) := by decide +kernel
theorem dX3_payNamedBills_118 : decode cX3_payNamedBills 118 = .ok (.iinc 4 1, 3) := by decide +kernel
theorem dX3_payNamedBills_121 : decode cX3_payNamedBills 121 = .ok (.goto (-78), 3) := by decide +kernel
theorem dX3_payNamedBills_124 : decode cX3_payNamedBills 124 = .ok (.return_, 1) := by decide +kernel
theorem dX3_payOtherBills_0 : decode cX3_payOtherBills 0 = .ok (.aload_n 0, 1) := by decide +kernel
theorem dX3_payOtherBills_1 : decode cX3_payOtherBills 1 = .ok (.getfield 19, 3) := by decide +kernel
theorem dX3_payOtherBills_4 : decode cX3_payOtherBills 4 = .ok (.getfield 79, 3) := by decide +kernel
theorem dX3_payOtherBills_7 : decode cX3_payOtherBills 7 = .ok (.iload_n 1, 1) := by decide +kernel
theorem dX3_payOtherBills_8 : decode cX3_payOtherBills 8 = .ok (.iaload, 1) := by decide +kernel
theorem dX3_payOtherBills_9 : decode cX3_payOtherBills 9 = .ok (.iconst (-1), 1) := by decide +kernel
theorem dX3_payOtherBills_10 : decode cX3_payOtherBills 10 = .ok (.if_icmp .ne 4, 3) := by decide +kernel
theorem dX3_payOtherBills_13 : decode cX3_payOtherBills 13 = .ok (.return_, 1) := by decide +kernel
theorem dX3_payOtherBills_14 : decode cX3_payOtherBills 14 = .ok (.aload_n 0, 1) := by decide +kernel
theorem dX3_payOtherBills_15 : decode cX3_payOtherBills 15 = .ok (.getfield 19, 3) := by decide +kernel
theorem dX3_payOtherBills_18 : decode cX3_payOtherBills 18 = .ok (.getfield 85, 3) := by decide +kernel
theorem dX3_payOtherBills_21 : decode cX3_payOtherBills 21 = .ok (.iload_n 1, 1) := by decide +kernel
theorem dX3_payOtherBills_22 : decode cX3_payOtherBills 22 = .ok (.iaload, 1) := by decide +kernel
theorem dX3_payOtherBills_23 : decode cX3_payOtherBills 23 = .ok (.ifCond .le 8, 3) := by decide +kernel
theorem dX3_payOtherBills_26 : decode cX3_payOtherBills 26 = .ok (.aload_n 0, 1) := by decide +kernel
theorem dX3_payOtherBills_27 : decode cX3_payOtherBills 27 = .ok (.iload_n 1, 1) := by decide +kernel
theorem dX3_payOtherBills_28 : decode cX3_payOtherBills 28 = .ok (.invokevirtual 194, 3) := by decide +kernel
theorem dX3_payOtherBills_31 : decode cX3_payOtherBills 31 = .ok (.aload_n 0, 1) := by decide +kernel
theorem dX3_payOtherBills_32 : decode cX3_payOtherBills 32 = .ok (.iload_n 1, 1) := by decide +kernel
theorem dX3_payOtherBills_33 : decode cX3_payOtherBills 33 = .ok (.invokevirtual 197, 3) := by decide +kernel
theorem dX3_payOtherBills_36 : decode cX3_payOtherBills 36 = .ok (.return_, 1) := by decide +kernel
theorem dX3_payExactSet_0 : decode cX3_payExactSet 0 = .ok (.aload_n 0, 1) := by decide +kernel
theorem dX3_payExactSet_1 : decode cX3_payExactSet 1 = .ok (.aload_n 0, 1) := by decide +kernel
theorem dX3_payExactSet_2 : decode cX3_payExactSet 2 = .ok (.getfield 19, 3) := by decide +kernel
theorem dX3_payExactSet_5 : decode cX3_payExactSet 5 = .ok (.getfield 79, 3) := by decide +kernel
theorem dX3_payExactSet_8 : decode cX3_payExactSet 8 = .ok (.iload_n 1, 1) := by decide +kernel
theorem dX3_payExactSet_9 : decode cX3_payExactSet 9 = .ok (.iaload, 1) := by decide +kernel
theorem dX3_payExactSet_10 : decode cX3_payExactSet 10 = .ok (.aload_n 0, 1) := by decide +kernel
theorem dX3_payExactSet_11 : decode cX3_payExactSet 11 = .ok (.getfield 19, 3) := by decide +kernel
theorem dX3_payExactSet_14 : decode cX3_payExactSet 14 = .ok (.getfield 85, 3) := by decide +kernel
theorem dX3_payExactSet_17 : decode cX3_payExactSet 17 = .ok (.iload_n 1, 1) := by decide +kernel
theorem dX3_payExactSet_18 : decode cX3_payExactSet 18 = .ok (.iaload, 1) := by decide +kernel
theorem dX3_payExactSet_19 : decode cX3_payExactSet 19 = .ok (.invokevirtual 155, 3) := by decide +kernel
theorem dX3_payExactSet_22 : decode cX3_payExactSet 22 = .ok (.iconst 0, 1) := by decide +kernel
theorem dX3_payExactSet_23 : decode cX3_payExactSet 23 = .ok (.istore_n 2, 1) := by decide +kernel
theorem dX3_payExactSet_24 : decode cX3_payExactSet 24 = .ok (.iload_n 2, 1) := by decide +kernel
theorem dX3_payExactSet_25 : decode cX3_payExactSet 25 = .ok (.iconst 3, 1) := by decide +kernel
theorem dX3_payExactSet_26 : decode cX3_payExactSet 26 = .ok (.if_icmp .ge 41, 3) := by decide +kernel
theorem dX3_payExactSet_29 : decode cX3_payExactSet 29 = .ok (.aload_n 0, 1) := by decide +kernel
theorem dX3_payExactSet_30 : decode cX3_payExactSet 30 = .ok (.getfield 26, 3) := by decide +kernel
theorem dX3_payExactSet_33 : decode cX3_payExactSet 33 = .ok (.getfield 158, 3) := by decide +kernel
theorem dX3_payExactSet_36 : decode cX3_payExactSet 36 = .ok (.iload_n 2, 1) := by decide +kernel
theorem dX3_payExactSet_37 : decode cX3_payExactSet 37 = .ok (.iaload, 1) := by decide +kernel
theorem dX3_payExactSet_38 : decode cX3_payExactSet 38 = .ok (.istore_n 3, 1) := by decide +kernel
theorem dX3_payExactSet_39 : decode cX3_payExactSet 39 = .ok (.iload_n 3, 1) := by decide +kernel
theorem dX3_payExactSet_40 : decode cX3_payExactSet 40 = .ok (.ifCond .lt 21, 3) := by decide +kernel
theorem dX3_payExactSet_43 : decode cX3_payExactSet 43 = .ok (.iload_n 3, 1) := by decide +kernel
theorem dX3_payExactSet_44 : decode cX3_payExactSet 44 = .ok (.aload_n 0, 1) := by decide +kernel
theorem dX3_payExactSet_45 : decode cX3_payExactSet 45 = .ok (.getfield 10, 3) := by decide +kernel
theorem dX3_payExactSet_48 : decode cX3_payExactSet 48 = .ok (.getfield 43, 3) := by decide +kernel
theorem dX3_payExactSet_51 : decode cX3_payExactSet 51 = .ok (.if_icmp .ge 10, 3) := by decide +kernel
theorem dX3_payExactSet_54 : decode cX3_payExactSet 54 = .ok (.aload_n 0, 1) := by decide +kernel
theorem dX3_payExactSet_55 : decode cX3_payExactSet 55 = .ok (.iload_n 1, 1) := by decide +kernel
theorem dX3_payExactSet_56 : decode cX3_payExactSet 56 = .ok (.iload_n 3, 1) := by decide +kernel
theorem dX3_payExactSet_57 : decode cX3_payExactSet 57 = .ok (.invokevirtual 188, 3) := by decide +kernel
theorem dX3_payExactSet_60 : decode cX3_payExactSet 60 = .ok (.pop, 1) := by decide +kernel
theorem dX3_payExactSet_61 : decode cX3_payExactSet 61 = .ok (.iinc 2 1, 3) := by decide +kernel
theorem dX3_payExactSet_64 : decode cX3_payExactSet 64 = .ok (.goto (-40), 3) := by decide +kernel
theorem dX3_payExactSet_67 : decode cX3_payExactSet 67 = .ok (.return_, 1) := by decide +kernel
theorem dX3_payOldestBills_0 : decode cX3_payOldestBills 0 = .ok (.aload_n 0, 1) := by decide +kernel
theorem dX3_payOldestBills_1 : decode cX3_payOldestBills 1 = .ok (.getfield 19, 3) := by decide +kernel
theorem dX3_payOldestBills_4 : decode cX3_payOldestBills 4 = .ok (.getfield 79, 3) := by decide +kernel
theorem dX3_payOldestBills_7 : decode cX3_payOldestBills 7 = .ok (.iload_n 1, 1) := by decide +kernel
theorem dX3_payOldestBills_8 : decode cX3_payOldestBills 8 = .ok (.iaload, 1) := by decide +kernel
theorem dX3_payOldestBills_9 : decode cX3_payOldestBills 9 = .ok (.istore_n 2, 1) := by decide +kernel
theorem dX3_payOldestBills_10 : decode cX3_payOldestBills 10 = .ok (.iconst 0, 1) := by decide +kernel
theorem dX3_payOldestBills_11 : decode cX3_payOldestBills 11 = .ok (.istore_n 3, 1) := by decide +kernel
theorem dX3_payOldestBills_12 : decode cX3_payOldestBills 12 = .ok (.iload_n 3, 1) := by decide +kernel
theorem dX3_payOldestBills_13 : decode cX3_payOldestBills 13 = .ok (.aload_n 0, 1) := by decide +kernel
theorem dX3_payOldestBills_14 : decode cX3_payOldestBills 14 = .ok (.getfield 10, 3) := by decide +kernel
theorem dX3_payOldestBills_17 : decode cX3_payOldestBills 17 = .ok (.getfield 43, 3) := by decide +kernel
theorem dX3_payOldestBills_20 : decode cX3_payOldestBills 20 = .ok (.if_icmp .ge 40, 3) := by decide +kernel
theorem dX3_payOldestBills_23 : decode cX3_payOldestBills 23 = .ok (.aload_n 0, 1) := by decide +kernel
theorem dX3_payOldestBills_24 : decode cX3_payOldestBills 24 = .ok (.getfield 19, 3) := by decide +kernel
theorem dX3_payOldestBills_27 : decode cX3_payOldestBills 27 = .ok (.getfield 85, 3) := by decide +kernel
theorem dX3_payOldestBills_30 : decode cX3_payOldestBills 30 = .ok (.iload_n 1, 1) := by decide +kernel
theorem dX3_payOldestBills_31 : decode cX3_payOldestBills 31 = .ok (.iaload, 1) := by decide +kernel
theorem dX3_payOldestBills_32 : decode cX3_payOldestBills 32 = .ok (.ifCond .le 28, 3) := by decide +kernel
theorem dX3_payOldestBills_35 : decode cX3_payOldestBills 35 = .ok (.aload_n 0, 1) := by decide +kernel
theorem dX3_payOldestBills_36 : decode cX3_payOldestBills 36 = .ok (.getfield 10, 3) := by decide +kernel
theorem dX3_payOldestBills_39 : decode cX3_payOldestBills 39 = .ok (.iload_n 3, 1) := by decide +kernel
theorem dX3_payOldestBills_40 : decode cX3_payOldestBills 40 = .ok (.iload_n 2, 1) := by decide +kernel
theorem dX3_payOldestBills_41 : decode cX3_payOldestBills 41 = .ok (.invokevirtual 182, 3) := by decide +kernel
theorem dX3_payOldestBills_44 : decode cX3_payOldestBills 44 = .ok (.ifCond .eq 10, 3) := by decide +kernel
theorem dX3_payOldestBills_47 : decode cX3_payOldestBills 47 = .ok (.aload_n 0, 1) := by decide +kernel
theorem dX3_payOldestBills_48 : decode cX3_payOldestBills 48 = .ok (.iload_n 1, 1) := by decide +kernel
theorem dX3_payOldestBills_49 : decode cX3_payOldestBills 49 = .ok (.iload_n 3, 1) := by decide +kernel
theorem dX3_payOldestBills_50 : decode cX3_payOldestBills 50 = .ok (.invokevirtual 188, 3) := by decide +kernel
theorem dX3_payOldestBills_53 : decode cX3_payOldestBills 53 = .ok (.pop, 1) := by decide +kernel
theorem dX3_payOldestBills_54 : decode cX3_payOldestBills 54 = .ok (.iinc 3 1, 3) := by decide +kernel
theorem dX3_payOldestBills_57 : decode cX3_payOldestBills 57 = .ok (.goto (-45), 3) := by decide +kernel
theorem dX3_payOldestBills_60 : decode cX3_payOldestBills 60 = .ok (.return_, 1) := by decide +kernel
theorem dX3_payBill_0 : decode cX3_payBill 0 = .ok (.aload_n 0, 1) := by decide +kernel
theorem dX3_payBill_1 : decode cX3_payBill 1 = .ok (.getfield 10, 3) := by decide +kernel
theorem dX3_payBill_4 : decode cX3_payBill 4 = .ok (.iload_n 2, 1) := by decide +kernel
theorem dX3_payBill_5 : decode cX3_payBill 5 = .ok (.aload_n 0, 1) := by decide +kernel
theorem dX3_payBill_6 : decode cX3_payBill 6 = .ok (.getfield 30, 3) := by decide +kernel
theorem dX3_payBill_9 : decode cX3_payBill 9 = .ok (.invokevirtual 132, 3) := by decide +kernel
theorem dX3_payBill_12 : decode cX3_payBill 12 = .ok (.istore_n 3, 1) := by decide +kernel
theorem dX3_payBill_13 : decode cX3_payBill 13 = .ok (.aload_n 0, 1) := by decide +kernel
theorem dX3_payBill_14 : decode cX3_payBill 14 = .ok (.getfield 19, 3) := by decide +kernel
theorem dX3_payBill_17 : decode cX3_payBill 17 = .ok (.getfield 85, 3) := by decide +kernel
theorem dX3_payBill_20 : decode cX3_payBill 20 = .ok (.iload_n 1, 1) := by decide +kernel
theorem dX3_payBill_21 : decode cX3_payBill 21 = .ok (.iaload, 1) := by decide +kernel
theorem dX3_payBill_22 : decode cX3_payBill 22 = .ok (.istore 4, 2) := by decide +kernel
theorem dX3_payBill_24 : decode cX3_payBill 24 = .ok (.iload 4, 2) := by decide +kernel
theorem dX3_payBill_26 : decode cX3_payBill 26 = .ok (.iload_n 3, 1) := by decide +kernel
theorem dX3_payBill_27 : decode cX3_payBill 27 = .ok (.if_icmp .lt 7, 3) := by decide +kernel
theorem dX3_payBill_30 : decode cX3_payBill 30 = .ok (.iconst 1, 1) := by decide +kernel
theorem dX3_payBill_31 : decode cX3_payBill 31 = .ok (.goto 4, 3) := by decide +kernel
theorem dX3_payBill_34 : decode cX3_payBill 34 = .ok (.iconst 0, 1) := by decide +kernel
theorem dX3_payBill_35 : decode cX3_payBill 35 = .ok (.istore 5, 2) := by decide +kernel
theorem dX3_payBill_37 : decode cX3_payBill 37 = .ok (.iload 5, 2) := by decide +kernel
theorem dX3_payBill_39 : decode cX3_payBill 39 = .ok (.ifCond .eq 16, 3) := by decide +kernel
theorem dX3_payBill_42 : decode cX3_payBill 42 = .ok (.aload_n 0, 1) := by decide +kernel
theorem dX3_payBill_43 : decode cX3_payBill 43 = .ok (.getfield 10, 3) := by decide +kernel
theorem dX3_payBill_46 : decode cX3_payBill 46 = .ok (.iload_n 2, 1) := by decide +kernel
theorem dX3_payBill_47 : decode cX3_payBill 47 = .ok (.iload_n 1, 1) := by decide +kernel
theorem dX3_payBill_48 : decode cX3_payBill 48 = .ok (.aload_n 0, 1) := by decide +kernel
theorem dX3_payBill_49 : decode cX3_payBill 49 = .ok (.getfield 30, 3) := by decide +kernel
theorem dX3_payBill_52 : decode cX3_payBill 52 = .ok (.invokevirtual 200, 3) := by decide +kernel
theorem dX3_payBill_55 : decode cX3_payBill 55 = .ok (.iload 5, 2) := by decide +kernel
theorem dX3_payBill_57 : decode cX3_payBill 57 = .ok (.ifCond .eq 7, 3) := by decide +kernel
theorem dX3_payBill_60 : decode cX3_payBill 60 = .ok (.iload_n 3, 1) := by decide +kernel
theorem dX3_payBill_61 : decode cX3_payBill 61 = .ok (.goto 5, 3) := by decide +kernel
theorem dX3_payBill_64 : decode cX3_payBill 64 = .ok (.iload 4, 2) := by decide +kernel
theorem dX3_payBill_66 : decode cX3_payBill 66 = .ok (.istore 6, 2) := by decide +kernel
theorem dX3_payBill_68 : decode cX3_payBill 68 = .ok (.aload_n 0, 1) := by decide +kernel
theorem dX3_payBill_69 : decode cX3_payBill 69 = .ok (.getfield 10, 3) := by decide +kernel
theorem dX3_payBill_72 : decode cX3_payBill 72 = .ok (.getfield 135, 3) := by decide +kernel
theorem dX3_payBill_75 : decode cX3_payBill 75 = .ok (.iload_n 2, 1) := by decide +kernel
theorem dX3_payBill_76 : decode cX3_payBill 76 = .ok (.dup2, 1) := by decide +kernel
theorem dX3_payBill_77 : decode cX3_payBill 77 = .ok (.iaload, 1) := by decide +kernel
theorem dX3_payBill_78 : decode cX3_payBill 78 = .ok (.iload 6, 2) := by decide +kernel
theorem dX3_payBill_80 : decode cX3_payBill 80 = .ok (.iadd, 1) := by decide +kernel
theorem dX3_payBill_81 : decode cX3_payBill 81 = .ok (.iastore, 1) := by decide +kernel
theorem dX3_payBill_82 : decode cX3_payBill 82 = .ok (.aload_n 0, 1) := by decide +kernel
theorem dX3_payBill_83 : decode cX3_payBill 83 = .ok (.getfield 19, 3) := by decide +kernel
theorem dX3_payBill_86 : decode cX3_payBill 86 = .ok (.iload_n 1, 1) := by decide +kernel
theorem dX3_payBill_87 : decode cX3_payBill 87 = .ok (.iload_n 2, 1) := by decide +kernel
theorem dX3_payBill_88 : decode cX3_payBill 88 = .ok (.iload 6, 2) := by decide +kernel
theorem dX3_payBill_90 : decode cX3_payBill 90 = .ok (.invokevirtual 203, 3) := by decide +kernel
theorem dX3_payBill_93 : decode cX3_payBill 93 = .ok (.iload 5, 2) := by decide +kernel
theorem dX3_payBill_95 : decode cX3_payBill 95 = .ok (.ireturn, 1) := by decide +kernel
theorem dX3_chooseExactSet_0 : decode cX3_chooseExactSet 0 = .ok (.aload_n 0, 1) := by decide +kernel
theorem dX3_chooseExactSet_1 : decode cX3_chooseExactSet 1 = .ok (.getfield 26, 3) := by decide +kernel
theorem dX3_chooseExactSet_4 : decode cX3_chooseExactSet 4 = .ok (.invokevirtual 206, 3) := by decide +kernel
theorem dX3_chooseExactSet_7 : decode cX3_chooseExactSet 7 = .ok (.iconst 0, 1) := by decide +kernel
theorem dX3_chooseExactSet_8 : decode cX3_chooseExactSet 8 = .ok (.istore_n 3, 1) := by decide +kernel
theorem dX3_chooseExactSet_9 : decode cX3_chooseExactSet 9 = .ok (.iload_n 3, 1) := by decide +kernel
theorem dX3_chooseExactSet_10 : decode cX3_chooseExactSet 10 = .ok (.aload_n 0, 1) := by decide +kernel
theorem dX3_chooseExactSet_11 : decode cX3_chooseExactSet 11 = .ok (.getfield 10, 3) := by decide +kernel
theorem dX3_chooseExactSet_14 : decode cX3_chooseExactSet 14 = .ok (.getfield 43, 3) := by decide +kernel
theorem dX3_chooseExactSet_17 : decode cX3_chooseExactSet 17 = .ok (.if_icmp .ge 41, 3) := by decide +kernel
theorem dX3_chooseExactSet_20 : decode cX3_chooseExactSet 20 = .ok (.aload_n 0, 1) := by decide +kernel
theorem dX3_chooseExactSet_21 : decode cX3_chooseExactSet 21 = .ok (.getfield 10, 3) := by decide +kernel
theorem dX3_chooseExactSet_24 : decode cX3_chooseExactSet 24 = .ok (.iload_n 3, 1) := by decide +kernel
theorem dX3_chooseExactSet_25 : decode cX3_chooseExactSet 25 = .ok (.iload_n 1, 1) := by decide +kernel
theorem dX3_chooseExactSet_26 : decode cX3_chooseExactSet 26 = .ok (.invokevirtual 182, 3) := by decide +kernel
theorem dX3_chooseExactSet_29 : decode cX3_chooseExactSet 29 = .ok (.ifCond .eq 23, 3) := by decide +kernel
theorem dX3_chooseExactSet_32 : decode cX3_chooseExactSet 32 = .ok (.aload_n 0, 1) := by decide +kernel
theorem dX3_chooseExactSet_33 : decode cX3_chooseExactSet 33 = .ok (.getfield 26, 3) := by decide +kernel
theorem dX3_chooseExactSet_36 : decode cX3_chooseExactSet 36 = .ok (.iload_n 3, 1) := by decide +kernel
theorem dX3_chooseExactSet_37 : decode cX3_chooseExactSet 37 = .ok (.aload_n 0, 1) := by decide +kernel
theorem dX3_chooseExactSet_38 : decode cX3_chooseExactSet 38 = .ok (.getfield 10, 3) := by decide +kernel
theorem dX3_chooseExactSet_41 : decode cX3_chooseExactSet 41 = .ok (.iload_n 3, 1) := by decide +kernel
theorem dX3_chooseExactSet_42 : decode cX3_chooseExactSet 42 = .ok (.aload_n 0, 1) := by decide +kernel
theorem dX3_chooseExactSet_43 : decode cX3_chooseExactSet 43 = .ok (.getfield 30, 3) := by decide +kernel
theorem dX3_chooseExactSet_46 : decode cX3_chooseExactSet 46 = .ok (.invokevirtual 132, 3) := by decide +kernel
theorem dX3_chooseExactSet_49 : decode cX3_chooseExactSet 49 = .ok (.invokevirtual 209, 3) := by decide +kernel
theorem dX3_chooseExactSet_52 : decode cX3_chooseExactSet 52 = .ok (.iinc 3 1, 3) := by decide +kernel
theorem dX3_chooseExactSet_55 : decode cX3_chooseExactSet 55 = .ok (.goto (-46), 3) := by decide +kernel
theorem dX3_chooseExactSet_58 : decode cX3_chooseExactSet 58 = .ok (.aload_n 0, 1) := by decide +kernel
theorem dX3_chooseExactSet_59 : decode cX3_chooseExactSet 59 = .ok (.getfield 26, 3) := by decide +kernel
theorem dX3_chooseExactSet_62 : decode cX3_chooseExactSet 62 = .ok (.iload_n 2, 1) := by decide +kernel
theorem dX3_chooseExactSet_63 : decode cX3_chooseExactSet 63 = .ok (.invokevirtual 212, 3) := by decide +kernel
theorem dX3_chooseExactSet_66 : decode cX3_chooseExactSet 66 = .ok (.return_, 1) := by decide +kernel
theorem dX3_requireCustomer_0 : decode cX3_requireCustomer 0 = .ok (.iload_n 0, 1) := by decide +kernel
theorem dX3_requireCustomer_1 : decode cX3_requireCustomer 1 = .ok (.ifCond .lt 9, 3) := by decide +kernel
theorem dX3_requireCustomer_4 : decode cX3_requireCustomer 4 = .ok (.iload_n 0, 1) := by decide +kernel
theorem dX3_requireCustomer_5 : decode cX3_requireCustomer 5 = .ok (.bipush 8, 2) := by decide +kernel
theorem dX3_requireCustomer_7 : decode cX3_requireCustomer 7 = .ok (.if_icmp .lt 13, 3) := by decide +kernel
theorem dX3_requireCustomer_10 : decode cX3_requireCustomer 10 = .ok (.new 145, 3) := by decide +kernel
theorem dX3_requireCustomer_13 : decode cX3_requireCustomer 13 = .ok (.dup, 1) := by decide +kernel
theorem dX3_requireCustomer_14 : decode cX3_requireCustomer 14 = .ok (.ldc 215, 2) := by decide +kernel
theorem dX3_requireCustomer_16 : decode cX3_requireCustomer 16 = .ok (.invokespecial 149, 3) := by decide +kernel
theorem dX3_requireCustomer_19 : decode cX3_requireCustomer 19 = .ok (.athrow, 1) := by decide +kernel
theorem dX3_requireCustomer_20 : decode cX3_requireCustomer 20 = .ok (.return_, 1) := by decide +kernel
theorem dX3_requireBill_0 : decode cX3_requireBill 0 = .ok (.iload_n 1, 1) := by decide +kernel
theorem dX3_requireBill_1 : decode cX3_requireBill 1 = .ok (.ifCond .lt 14, 3) := by decide +kernel
theorem dX3_requireBill_4 : decode cX3_requireBill 4 = .ok (.iload_n 1, 1) := by decide +kernel
theorem dX3_requireBill_5 : decode cX3_requireBill 5 = .ok (.aload_n 0, 1) := by decide +kernel
theorem dX3_requireBill_6 : decode cX3_requireBill 6 = .ok (.getfield 10, 3) := by decide +kernel
theorem dX3_requireBill_9 : decode cX3_requireBill 9 = .ok (.getfield 43, 3) := by decide +kernel
theorem dX3_requireBill_12 : decode cX3_requireBill 12 = .ok (.if_icmp .lt 13, 3) := by decide +kernel
theorem dX3_requireBill_15 : decode cX3_requireBill 15 = .ok (.new 145, 3) := by decide +kernel
theorem dX3_requireBill_18 : decode cX3_requireBill 18 = .ok (.dup, 1) := by decide +kernel
theorem dX3_requireBill_19 : decode cX3_requireBill 19 = .ok (.ldc 217, 2) := by decide +kernel
theorem dX3_requireBill_21 : decode cX3_requireBill 21 = .ok (.invokespecial 149, 3) := by decide +kernel
theorem dX3_requireBill_24 : decode cX3_requireBill 24 = .ok (.athrow, 1) := by decide +kernel
theorem dX3_requireBill_25 : decode cX3_requireBill 25 = .ok (.return_, 1) := by decide +kernel
theorem dX3_requireReceipt_0 : decode cX3_requireReceipt 0 = .ok (.iload_n 1, 1) := by decide +kernel
theorem dX3_requireReceipt_1 : decode cX3_requireReceipt 1 = .ok (.ifCond .lt 14, 3) := by decide +kernel
theorem dX3_requireReceipt_4 : decode cX3_requireReceipt 4 = .ok (.iload_n 1, 1) := by decide +kernel
theorem dX3_requireReceipt_5 : decode cX3_requireReceipt 5 = .ok (.aload_n 0, 1) := by decide +kernel
theorem dX3_requireReceipt_6 : decode cX3_requireReceipt 6 = .ok (.getfield 19, 3) := by decide +kernel
theorem dX3_requireReceipt_9 : decode cX3_requireReceipt 9 = .ok (.getfield 61, 3) := by decide +kernel
theorem dX3_requireReceipt_12 : decode cX3_requireReceipt 12 = .ok (.if_icmp .lt 13, 3) := by decide +kernel
theorem dX3_requireReceipt_15 : decode cX3_requireReceipt 15 = .ok (.new 145, 3) := by decide +kernel
theorem dX3_requireReceipt_18 : decode cX3_requireReceipt 18 = .ok (.dup, 1) := by decide +kernel
theorem dX3_requireReceipt_19 : decode cX3_requireReceipt 19 = .ok (.ldc 219, 2) := by decide +kernel
theorem dX3_requireReceipt_21 : decode cX3_requireReceipt 21 = .ok (.invokespecial 149, 3) := by decide +kernel
theorem dX3_requireReceipt_24 : decode cX3_requireReceipt 24 = .ok (.athrow, 1) := by decide +kernel
theorem dX3_requireReceipt_25 : decode cX3_requireReceipt 25 = .ok (.return_, 1) := by decide +kernel
theorem dX3_requireNotBounced_0 : decode cX3_requireNotBounced 0 = .ok (.aload_n 0, 1) := by decide +kernel
theorem dX3_requireNotBounced_1 : decode cX3_requireNotBounced 1 = .ok (.getfield 19, 3) := by decide +kernel
theorem dX3_requireNotBounced_4 : decode cX3_requireNotBounced 4 = .ok (.getfield 161, 3) := by decide +kernel
theorem dX3_requireNotBounced_7 : decode cX3_requireNotBounced 7 = .ok (.iload_n 1, 1) := by decide +kernel
theorem dX3_requireNotBounced_8 : decode cX3_requireNotBounced 8 = .ok (.baload, 1) := by decide +kernel
theorem dX3_requireNotBounced_9 : decode cX3_requireNotBounced 9 = .ok (.ifCond .eq 13, 3) := by decide +kernel
theorem dX3_requireNotBounced_12 : decode cX3_requireNotBounced 12 = .ok (.new 46, 3) := by decide +kernel
theorem dX3_requireNotBounced_15 : decode cX3_requireNotBounced 15 = .ok (.dup, 1) := by decide +kernel
theorem dX3_requireNotBounced_16 : decode cX3_requireNotBounced 16 = .ok (.ldc 221, 2) := by decide +kernel
theorem dX3_requireNotBounced_18 : decode cX3_requireNotBounced 18 = .ok (.invokespecial 50, 3) := by decide +kernel
theorem dX3_requireNotBounced_21 : decode cX3_requireNotBounced 21 = .ok (.athrow, 1) := by decide +kernel
theorem dX3_requireNotBounced_22 : decode cX3_requireNotBounced 22 = .ok (.return_, 1) := by decide +kernel
theorem dX3_requireWithin_0 : decode cX3_requireWithin 0 = .ok (.iload_n 0, 1) := by decide +kernel
theorem dX3_requireWithin_1 : decode cX3_requireWithin 1 = .ok (.iload_n 1, 1) := by decide +kernel
theorem dX3_requireWithin_2 : decode cX3_requireWithin 2 = .ok (.if_icmp .lt 8, 3) := by decide +kernel
theorem dX3_requireWithin_5 : decode cX3_requireWithin 5 = .ok (.iload_n 0, 1) := by decide +kernel
theorem dX3_requireWithin_6 : decode cX3_requireWithin 6 = .ok (.iload_n 2, 1) := by decide +kernel
theorem dX3_requireWithin_7 : decode cX3_requireWithin 7 = .ok (.if_icmp .le 13, 3) := by decide +kernel
theorem dX3_requireWithin_10 : decode cX3_requireWithin 10 = .ok (.new 150, 3) := by decide +kernel
theorem dX3_requireWithin_13 : decode cX3_requireWithin 13 = .ok (.dup, 1) := by decide +kernel
theorem dX3_requireWithin_14 : decode cX3_requireWithin 14 = .ok (.ldc 223, 2) := by decide +kernel
theorem dX3_requireWithin_16 : decode cX3_requireWithin 16 = .ok (.invokespecial 154, 3) := by decide +kernel
theorem dX3_requireWithin_19 : decode cX3_requireWithin 19 = .ok (.athrow, 1) := by decide +kernel
theorem dX3_requireWithin_20 : decode cX3_requireWithin 20 = .ok (.return_, 1) := by decide +kernel
theorem dX3_discountOf_0 : decode cX3_discountOf 0 = .ok (.iload_n 0, 1) := by decide +kernel
theorem dX3_discountOf_1 : decode cX3_discountOf 1 = .ok (.i2l, 1) := by decide +kernel
theorem dX3_discountOf_2 : decode cX3_discountOf 2 = .ok (.iload_n 1, 1) := by decide +kernel
theorem dX3_discountOf_3 : decode cX3_discountOf 3 = .ok (.i2l, 1) := by decide +kernel
theorem dX3_discountOf_4 : decode cX3_discountOf 4 = .ok (.lmul, 1) := by decide +kernel
theorem dX3_discountOf_5 : decode cX3_discountOf 5 = .ok (.ldc2_w 225, 3) := by decide +kernel
theorem dX3_discountOf_8 : decode cX3_discountOf 8 = .ok (.ldiv, 1) := by decide +kernel
theorem dX3_discountOf_9 : decode cX3_discountOf 9 = .ok (.l2i, 1) := by decide +kernel
theorem dX3_discountOf_10 : decode cX3_discountOf 10 = .ok (.ireturn, 1) := by decide +kernel

def dcO (am rt : Int32) : Int32 := (am.toInt64 * rt.toInt64 / 10000).toInt32
def payS (B R : Nat → Nat → Int32) (rc b : Nat) (td : Int32) : Int32 := if R 3 rc < dueN B b td then R 3 rc else dueN B b td
def payB (B R : Nat → Nat → Int32) (rc b : Nat) (td : Int32) : Nat → Nat → Int32 := if R 3 rc < dueN B b td then pt B 5 b (B 5 b + R 3 rc) else pt (tkD B b (nI rc) td) 5 b (tkD B b (nI rc) td 5 b + dueN B b td)
def payR (B R : Nat → Nat → Int32) (rc b : Nat) (td : Int32) : Nat → Nat → Int32 := addP R rc b (payS B R rc b td)
theorem tkD_n {B : Nat → Nat → Int32} {i : Nat} {rc dy : Int32} : tkD B i rc dy 11 0 = B 11 0 := by
  unfold tkD
  split
  · rfl
  · rfl
theorem payB_n {B R : Nat → Nat → Int32} {rc b : Nat} {td : Int32} : payB B R rc b td 11 0 = B 11 0 := by
  unfold payB
  split
  · rfl
  · exact tkD_n
theorem dsp_n {B : Nat → Nat → Int32} {i : Nat} {rc : Int32} : dsp B i rc 11 0 = B 11 0 := rfl
theorem not_lt_of_ge32 {x y : Int32} (h : y ≤ x) : ¬ x < y := Int32.not_lt.mpr h
theorem lt_of_nge32 {x y : Int32} (h : ¬ y ≤ x) : x < y := Int32.not_le.mp h
theorem ix_of {x : Int32} {n : Nat} (hn : n < 2 ^ 31) (h0 : ¬ x < 0) (h : x < nI n) : ∃ j, j < n ∧ x = nI j := by
  obtain ⟨j, hj, rfl⟩ := nI_of h0
  exact ⟨j, (nI_ltI hj hn).mp h, rfl⟩
def oldL (rc : Nat) (cu td : Int32) : Nat → Nat → (Nat → Nat → Int32) → (Nat → Nat → Int32) → (Nat → Nat → Int32) × (Nat → Nat → Int32)
  | 0, _, B, R => (B, R)
  | k + 1, i, B, R => if R 3 rc ≤ 0 then (B, R) else if B 0 i = cu ∧ ¬ opn B i ≤ 0 then oldL rc cu td k (i + 1) (payB B R rc i td) (payR B R rc i td) else oldL rc cu td k (i + 1) B R
def ofL (B : Nat → Nat → Int32) (cu td : Int32) : Nat → Nat → Nat → (Nat → Nat → Int32) → (Nat → Nat → Int32) × Nat
  | 0, _, mm, E => (E, mm)
  | k + 1, i, mm, E => if B 0 i = cu ∧ ¬ opn B i ≤ 0 then ofL B cu td k (i + 1) (mm + 1) (offE E mm (nI i) (dueN B i td)) else ofL B cu td k (i + 1) mm E
/-- what is chosen of the bills that are offered -/
def cesE (B E : Nat → Nat → Int32) (cu sm td : Int32) (n : Nat) : Nat → Nat → Int32 := chE (ofL B cu td n 0 0 (clrE E)).1 sm (ofL B cu td n 0 0 (clrE E)).2
def exP (E : Nat → Nat → Int32) (rc : Nat) (td : Int32) (n : Nat) : Nat → Nat → (Nat → Nat → Int32) → (Nat → Nat → Int32) → (Nat → Nat → Int32) × (Nat → Nat → Int32)
  | 0, _, B, R => (B, R)
  | k + 1, i, B, R => if ¬ E 2 i < 0 ∧ E 2 i < nI n then exP E rc td n k (i + 1) (payB B R rc (E 2 i).toNatClampNeg td) (payR B R rc (E 2 i).toNatClampNeg td) else exP E rc td n k (i + 1) B R
theorem exP_n {E : Nat → Nat → Int32} {rc : Nat} {td : Int32} {n : Nat} : ∀ {k i : Nat} {B R : Nat → Nat → Int32}, (exP E rc td n k i B R).1 11 0 = B 11 0
  | 0, _, _, _ => rfl
  | k + 1, i, B, R => by
    rw [exP]
    split
    · rw [exP_n, payB_n]
    · rw [exP_n]
theorem oldL_n {rc : Nat} {cu td : Int32} : ∀ {k i : Nat} {B R : Nat → Nat → Int32}, (oldL rc cu td k i B R).1 11 0 = B 11 0
  | 0, _, _, _ => rfl
  | k + 1, i, B, R => by
    rw [oldL]
    split
    · rfl
    · split
      · rw [oldL_n, payB_n]
      · rw [oldL_n]
/-- the steps 2 and 3 -/
def othS (B R E : Nat → Nat → Int32) (rc n : Nat) (td : Int32) : (Nat → Nat → Int32) × (Nat → Nat → Int32) × (Nat → Nat → Int32) :=
  if R 0 rc = -1 then (B, R, E) else if R 3 rc ≤ 0 then ((oldL rc (R 0 rc) td n 0 B R).1, (oldL rc (R 0 rc) td n 0 B R).2, E)
  else ((oldL rc ((exP (cesE B E (R 0 rc) (R 3 rc) td n) rc td n 3 0 B R).2 0 rc) td n 0 (exP (cesE B E (R 0 rc) (R 3 rc) td n) rc td n 3 0 B R).1 (exP (cesE B E (R 0 rc) (R 3 rc) td n) rc td n 3 0 B R).2).1, (oldL rc ((exP (cesE B E (R 0 rc) (R 3 rc) td n) rc td n 3 0 B R).2 0 rc) td n 0 (exP (cesE B E (R 0 rc) (R 3 rc) td n) rc td n 3 0 B R).1 (exP (cesE B E (R 0 rc) (R 3 rc) td n) rc td n 3 0 B R).2).2, cesE B E (R 0 rc) (R 3 rc) td n)
def namL (rc : Nat) (rf cu td : Int32) : Nat → Nat → (Nat → Nat → Int32) → (Nat → Nat → Int32) → (Nat → Nat → Int32) × (Nat → Nat → Int32)
  | 0, _, B, R => (B, R)
  | k + 1, i, B, R => if R 3 rc ≤ 0 then (B, R) else if (B 0 i = cu ∧ ¬ opn B i ≤ 0) ∧ B 2 i = rf then (if ¬ R 3 rc < dueN B i td then namL rc rf cu td k (i + 1) (payB B R rc i td) (payR B R rc i td) else namL rc rf cu td k (i + 1) (dsp (payB B R rc i td) i (nI rc)) (payR B R rc i td)) else namL rc rf cu td k (i + 1) B R
/-- step 1 -/
def namS (B R : Nat → Nat → Int32) (rc : Nat) (rf : Int32) (n : Nat) (td : Int32) : (Nat → Nat → Int32) × (Nat → Nat → Int32) :=
  if R 0 rc = -1 then namL rc rf ((pt R 0 rc (nmd B rf n 0)) 0 rc) td n 0 B (pt R 0 rc (nmd B rf n 0)) else namL rc rf (R 0 rc) td n 0 B R
set_option maxHeartbeats 4000000 in
set_option maxRecDepth 100000 in
theorem c_X3_requireCustomer (l : Launch) (D : va_G) (cI cZ : ClassId) (a : Nat → Nat) (sz : Nat) (cu : Int32) (h1 : ¬ cu < 0) (h2 : cu < 8) : Met l yX3_requireCustomer wsX3_requireCustomer ({ frames := 0, cells := 0, slots := 0, locals := 0 } : Room) (va_Pc [.int (cu)] (PreW D cI cZ ([] : va_W) sz)) (va_Qv (fun (u : Unit) => True) (fun (u : Unit) => PostW D cI cZ (va_A ([] : va_W) sz) ([] : va_W)) (va_A ([] : va_W) sz)) 0 0 (va_A ([] : va_W) sz) := by
  refine Met.ofW (cc := cX3_requireCustomer) (maxL := 1) (ret := none) (by decide) rfl ?_
  intro p e s m args below meth c s₁ BB hml hv
  obtain ⟨rfl, hsz, hP, hK, hD0⟩ := hv
  have hx := BB.exec
  have hb := BB.bytes
  have hr := BB.returns
  have hts := atoms_spec (ws := wsX3_requireCustomer) BB.pre
  have hown : s.vm.findClass RX3 = some m.cls := findClass_of_methodNamed BB.named
  have hlocks := BB.notSynchronized
  clear BB
  subst hsz
  have hD := hD0.self (sz := s.heap.size)
  clear hD0
  generalize hAe : va_A ([] : va_W) s.heap.size = A at hD ⊢
  have hA : ∀ q : Nat, s.heap.size ≤ q → A q := fun q h => by rw [← hAe]; exact Or.inr h
  clear hAe
  have hS : va_S A s.heap s.heap [] := va_S.rf
  have hl := lv_entry ([.int (cu)]) (n := 1) (Nat.le_of_ble_eq_true rfl)
  rw [lg_entry_eq]
  generalize (lg_sl ([.int (cu)]) ++ List.replicate (1 - (lg_sl ([.int (cu)])).length) Slot.unset).toArray = ls at hl ⊢
  have hl : lv_has ls 1 [(0, .int (cu))] := hl
  generalize hHe : s.heap = H at hP
  have hS : va_S A s.heap H [] := by rw [← hHe]; exact va_S.rf
  clear hHe
  generalize hLe : ([] : List Loc) = locs at hS ⊢
  clear hLe
  refine lv_iload_n hx hb dX3_requireCustomer_0 rfl (lv_at hl 0 rfl) ?_
  refine lv_if_lt (tgt := 10) hx hb dX3_requireCustomer_1 (by decide) (fun c1 => ?_) (fun c1 => ?_)
  · -- 1 taken
    exact absurd c1 h1
  · -- 1 on
    refine lv_iload_n hx hb dX3_requireCustomer_4 rfl (lv_at hl 0 rfl) ?_
    refine lv_bipush (v := 8) hx hb dX3_requireCustomer_5 (by decide) ?_
    refine lv_icmp_lt (tgt := 20) hx hb dX3_requireCustomer_7 (by decide) (fun c7 => ?_) (fun c7 => ?_)
    · -- 7 taken
      exact W.vret hx hb hr (fun t ht hW => ⟨⟨(), rfl, trivial, by rw [ht]; exact hP, va_K.moved hW.alike hK, hD⟩, hS.F ht⟩) hS.2.2 dX3_requireCustomer_20
    · -- 7 on
      exact absurd h2 c7
set_option maxHeartbeats 4000000 in
set_option maxRecDepth 100000 in
theorem c_X3_requireWithin (l : Launch) (D : va_G) (cI cZ : ClassId) (a : Nat → Nat) (sz : Nat) (vv : Int32) (lo : Int32) (hi : Int32) (h1 : ¬ vv < lo) (h2 : vv ≤ hi) : Met l yX3_requireWithin wsX3_requireWithin ({ frames := 0, cells := 0, slots := 0, locals := 0 } : Room) (va_Pc [.int (vv), .int (lo), .int (hi)] (PreW D cI cZ ([] : va_W) sz)) (va_Qv (fun (u : Unit) => True) (fun (u : Unit) => PostW D cI cZ (va_A ([] : va_W) sz) ([] : va_W)) (va_A ([] : va_W) sz)) 0 0 (va_A ([] : va_W) sz) := by
  refine Met.ofW (cc := cX3_requireWithin) (maxL := 3) (ret := none) (by decide) rfl ?_
  intro p e s m args below meth c s₁ BB hml hv
  obtain ⟨rfl, hsz, hP, hK, hD0⟩ := hv
  have hx := BB.exec
  have hb := BB.bytes
  have hr := BB.returns
  have hts := atoms_spec (ws := wsX3_requireWithin) BB.pre
  have hown : s.vm.findClass RX3 = some m.cls := findClass_of_methodNamed BB.named
  have hlocks := BB.notSynchronized
  clear BB
  subst hsz
  have hD := hD0.self (sz := s.heap.size)
  clear hD0
  generalize hAe : va_A ([] : va_W) s.heap.size = A at hD ⊢
  have hA : ∀ q : Nat, s.heap.size ≤ q → A q := fun q h => by rw [← hAe]; exact Or.inr h
  clear hAe
  have hS : va_S A s.heap s.heap [] := va_S.rf
  have hl := lv_entry ([.int (vv), .int (lo), .int (hi)]) (n := 3) (Nat.le_of_ble_eq_true rfl)
  rw [lg_entry_eq]
  generalize (lg_sl ([.int (vv), .int (lo), .int (hi)]) ++ List.replicate (3 - (lg_sl ([.int (vv), .int (lo), .int (hi)])).length) Slot.unset).toArray = ls at hl ⊢
  have hl : lv_has ls 3 [(0, .int (vv)), (1, .int (lo)), (2, .int (hi))] := hl
  generalize hHe : s.heap = H at hP
  have hS : va_S A s.heap H [] := by rw [← hHe]; exact va_S.rf
  clear hHe
  generalize hLe : ([] : List Loc) = locs at hS ⊢
  clear hLe
  refine lv_iload_n hx hb dX3_requireWithin_0 rfl (lv_at hl 0 rfl) ?_
  refine lv_iload_n hx hb dX3_requireWithin_1 rfl (lv_at hl 1 rfl) ?_
  refine lv_icmp_lt (tgt := 10) hx hb dX3_requireWithin_2 (by decide) (fun c2 => ?_) (fun c2 => ?_)
  · -- 2 taken
    exact absurd c2 h1
  · -- 2 on
    refine lv_iload_n hx hb dX3_requireWithin_5 rfl (lv_at hl 0 rfl) ?_
    refine lv_iload_n hx hb dX3_requireWithin_6 rfl (lv_at hl 2 rfl) ?_
    refine lv_icmp_le (tgt := 20) hx hb dX3_requireWithin_7 (by decide) (fun c7 => ?_) (fun c7 => ?_)
    · -- 7 taken
      exact W.vret hx hb hr (fun t ht hW => ⟨⟨(), rfl, trivial, by rw [ht]; exact hP, va_K.moved hW.alike hK, hD⟩, hS.F ht⟩) hS.2.2 dX3_requireWithin_20
    · -- 7 on
      exact absurd h2 c7
set_option maxHeartbeats 4000000 in
set_option maxRecDepth 100000 in
theorem c_X3_requireBill (l : Launch) (D : va_G) (cI cZ : ClassId) (a : Nat → Nat) (sz : Nat) (B : Nat → Nat → Int32) (R : Nat → Nat → Int32) (E : Nat → Nat → Int32) (td : Int32) (vv : Int32) (h1 : ¬ vv < 0) (h2 : vv < B 11 0) : Met l yX3_requireBill wsX3_requireBill ({ frames := 0, cells := 0, slots := 0, locals := 0 } : Room) (va_Pc [.ref (a 0), .int (vv)] (PreW D cI cZ (wCA a cI cZ B R E (td)) sz)) (va_Qv (fun (u : Unit) => True) (fun (u : Unit) => PostW D cI cZ (va_A (wCA a cI cZ B R E (td)) sz) (wCA a cI cZ B R E (td))) (va_A (wCA a cI cZ B R E (td)) sz)) 0 0 (va_A (wCA a cI cZ B R E (td)) sz) := by
  refine Met.ofW (cc := cX3_requireBill) (maxL := 2) (ret := none) (by decide) rfl ?_
  intro p e s m args below meth c s₁ BB hml hv
  obtain ⟨rfl, hsz, hP, hK, hD0⟩ := hv
  have hx := BB.exec
  have hb := BB.bytes
  have hr := BB.returns
  have hts := atoms_spec (ws := wsX3_requireBill) BB.pre
  have hown : s.vm.findClass RX3 = some m.cls := findClass_of_methodNamed BB.named
  have hlocks := BB.notSynchronized
  clear BB
  subst hsz
  have hD := hD0.self (sz := s.heap.size)
  clear hD0
  generalize hAe : va_A (wCA a cI cZ B R E (td)) s.heap.size = A at hD ⊢
  have hA : ∀ q : Nat, s.heap.size ≤ q → A q := fun q h => by rw [← hAe]; exact Or.inr h
  clear hAe
  have hS : va_S A s.heap s.heap [] := va_S.rf
  have hl := lv_entry ([.ref (a 0), .int (vv)]) (n := 2) (Nat.le_of_ble_eq_true rfl)
  rw [lg_entry_eq]
  generalize (lg_sl ([.ref (a 0), .int (vv)]) ++ List.replicate (2 - (lg_sl ([.ref (a 0), .int (vv)])).length) Slot.unset).toArray = ls at hl ⊢
  have hl : lv_has ls 2 [(0, .ref (a 0)), (1, .int (vv))] := hl
  generalize hHe : s.heap = H at hP
  have hS : va_S A s.heap H [] := by rw [← hHe]; exact va_S.rf
  clear hHe
  generalize hLe : ([] : List Loc) = locs at hS ⊢
  clear hLe
  refine lv_iload_n hx hb dX3_requireBill_0 rfl (lv_at hl 1 rfl) ?_
  refine lv_if_lt (tgt := 15) hx hb dX3_requireBill_1 (by decide) (fun c1 => ?_) (fun c1 => ?_)
  · -- 1 taken
    exact absurd c1 h1
  · -- 1 on
    refine lv_iload_n hx hb dX3_requireBill_4 rfl (lv_at hl 1 rfl) ?_
    refine lv_aload_n hx hb dX3_requireBill_5 rfl (lv_at hl 0 rfl) ?_
    refine va_get (D := D) (ci := 3) (v := .ref (a 1)) (C := RX3) (T := TX3) (N := 4) hx hb hts (fun w h => List.mem_cons_of_mem _ (List.mem_append_left _ (List.mem_append_left _ (List.mem_append_right _ h)))) hown hK hP 0 rfl rfl 0 (by decide) (hts (.fieldLink RX3 10 "CashAllocator" "billBook" "LCashAllocator$BillBook;") (by decide +kernel)) (fun _ h9 => h9) rfl dX3_requireBill_6 ?_
    refine va_get (D := D) (ci := 0) (v := .int (B 11 (0))) (C := RX0) (T := TX0) (N := 12) hx hb hts (fun w h => List.mem_cons_of_mem _ (List.mem_append_left _ (List.mem_append_right _ h))) hown hK hP 1 rfl rfl 11 (by decide) (hts (.fieldLink RX3 43 "CashAllocator$BillBook" "count" "I") (by decide +kernel)) (fun _ h9 => h9) rfl dX3_requireBill_9 ?_
    refine lv_icmp_lt (tgt := 25) hx hb dX3_requireBill_12 (by decide) (fun c12 => ?_) (fun c12 => ?_)
    · -- 12 taken
      exact W.vret hx hb hr (fun t ht hW => ⟨⟨(), rfl, trivial, by rw [ht]; exact hP, va_K.moved hW.alike hK, hD⟩, hS.F ht⟩) hS.2.2 dX3_requireBill_25
    · -- 12 on
      exact absurd h2 c12
set_option maxHeartbeats 4000000 in
set_option maxRecDepth 100000 in
theorem c_X3_requireReceipt (l : Launch) (D : va_G) (cI cZ : ClassId) (a : Nat → Nat) (sz : Nat) (B : Nat → Nat → Int32) (R : Nat → Nat → Int32) (E : Nat → Nat → Int32) (td : Int32) (vv : Int32) (h1 : ¬ vv < 0) (h2 : vv < R 8 0) : Met l yX3_requireReceipt wsX3_requireReceipt ({ frames := 0, cells := 0, slots := 0, locals := 0 } : Room) (va_Pc [.ref (a 0), .int (vv)] (PreW D cI cZ (wCA a cI cZ B R E (td)) sz)) (va_Qv (fun (u : Unit) => True) (fun (u : Unit) => PostW D cI cZ (va_A (wCA a cI cZ B R E (td)) sz) (wCA a cI cZ B R E (td))) (va_A (wCA a cI cZ B R E (td)) sz)) 0 0 (va_A (wCA a cI cZ B R E (td)) sz) := by
  refine Met.ofW (cc := cX3_requireReceipt) (maxL := 2) (ret := none) (by decide) rfl ?_
  intro p e s m args below meth c s₁ BB hml hv
  obtain ⟨rfl, hsz, hP, hK, hD0⟩ := hv
  have hx := BB.exec
  have hb := BB.bytes
  have hr := BB.returns
  have hts := atoms_spec (ws := wsX3_requireReceipt) BB.pre
  have hown : s.vm.findClass RX3 = some m.cls := findClass_of_methodNamed BB.named
  have hlocks := BB.notSynchronized
  clear BB
  subst hsz
  have hD := hD0.self (sz := s.heap.size)
  clear hD0
  generalize hAe : va_A (wCA a cI cZ B R E (td)) s.heap.size = A at hD ⊢
  have hA : ∀ q : Nat, s.heap.size ≤ q → A q := fun q h => by rw [← hAe]; exact Or.inr h
  clear hAe
  have hS : va_S A s.heap s.heap [] := va_S.rf
  have hl := lv_entry ([.ref (a 0), .int (vv)]) (n := 2) (Nat.le_of_ble_eq_true rfl)
  rw [lg_entry_eq]
  generalize (lg_sl ([.ref (a 0), .int (vv)]) ++ List.replicate (2 - (lg_sl ([.ref (a 0), .int (vv)])).length) Slot.unset).toArray = ls at hl ⊢
  have hl : lv_has ls 2 [(0, .ref (a 0)), (1, .int (vv))] := hl
  generalize hHe : s.heap = H at hP
  have hS : va_S A s.heap H [] := by rw [← hHe]; exact va_S.rf
  clear hHe
  generalize hLe : ([] : List Loc) = locs at hS ⊢
  clear hLe
  refine lv_iload_n hx hb dX3_requireReceipt_0 rfl (lv_at hl 1 rfl) ?_
  refine lv_if_lt (tgt := 15) hx hb dX3_requireReceipt_1 (by decide) (fun c1 => ?_) (fun c1 => ?_)
  · -- 1 taken
    exact absurd c1 h1
  · -- 1 on
    refine lv_iload_n hx hb dX3_requireReceipt_4 rfl (lv_at hl 1 rfl) ?_
    refine lv_aload_n hx hb dX3_requireReceipt_5 rfl (lv_at hl 0 rfl) ?_
    refine va_get (D := D) (ci := 3) (v := .ref (a 13)) (C := RX3) (T := TX3) (N := 4) hx hb hts (fun w h => List.mem_cons_of_mem _ (List.mem_append_left _ (List.mem_append_left _ (List.mem_append_right _ h)))) hown hK hP 0 rfl rfl 1 (by decide) (hts (.fieldLink RX3 19 "CashAllocator" "receiptBook" "LCashAllocator$ReceiptBook;") (by decide +kernel)) (fun _ h9 => h9) rfl dX3_requireReceipt_6 ?_
    refine va_get (D := D) (ci := 2) (v := .int (R 8 (0))) (C := RX2) (T := TX2) (N := 9) hx hb hts (fun w h => List.mem_cons_of_mem _ (List.mem_append_left _ (List.mem_append_right _ h))) hown hK hP 13 rfl rfl 8 (by decide) (hts (.fieldLink RX3 61 "CashAllocator$ReceiptBook" "count" "I") (by decide +kernel)) (fun _ h9 => h9) rfl dX3_requireReceipt_9 ?_
    refine lv_icmp_lt (tgt := 25) hx hb dX3_requireReceipt_12 (by decide) (fun c12 => ?_) (fun c12 => ?_)
    · -- 12 taken
      exact W.vret hx hb hr (fun t ht hW => ⟨⟨(), rfl, trivial, by rw [ht]; exact hP, va_K.moved hW.alike hK, hD⟩, hS.F ht⟩) hS.2.2 dX3_requireReceipt_25
    · -- 12 on
      exact absurd h2 c12
set_option maxHeartbeats 4000000 in
set_option maxRecDepth 100000 in
theorem c_X3_requireNotBounced (l : Launch) (D : va_G) (cI cZ : ClassId) (a : Nat → Nat) (sz : Nat) (B : Nat → Nat → Int32) (R : Nat → Nat → Int32) (E : Nat → Nat → Int32) (td : Int32) (rc : Nat) (hrc : rc < 30) (h1 : R 5 rc = 0) : Met l yX3_requireNotBounced wsX3_requireNotBounced ({ frames := 0, cells := 0, slots := 0, locals := 0 } : Room) (va_Pc [.ref (a 0), .int (nI (rc))] (PreW D cI cZ (wCA a cI cZ B R E (td)) sz)) (va_Qv (fun (u : Unit) => True) (fun (u : Unit) => PostW D cI cZ (va_A (wCA a cI cZ B R E (td)) sz) (wCA a cI cZ B R E (td))) (va_A (wCA a cI cZ B R E (td)) sz)) 0 0 (va_A (wCA a cI cZ B R E (td)) sz) := by
  refine Met.ofW (cc := cX3_requireNotBounced) (maxL := 2) (ret := none) (by decide) rfl ?_
  intro p e s m args below meth c s₁ BB hml hv
  obtain ⟨rfl, hsz, hP, hK, hD0⟩ := hv
  have hx := BB.exec
  have hb := BB.bytes
  have hr := BB.returns
  have hts := atoms_spec (ws := wsX3_requireNotBounced) BB.pre
  have hown : s.vm.findClass RX3 = some m.cls := findClass_of_methodNamed BB.named
  have hlocks := BB.notSynchronized
  clear BB
  subst hsz
  have hD := hD0.self (sz := s.heap.size)
  clear hD0
  generalize hAe : va_A (wCA a cI cZ B R E (td)) s.heap.size = A at hD ⊢
  have hA : ∀ q : Nat, s.heap.size ≤ q → A q := fun q h => by rw [← hAe]; exact Or.inr h
  clear hAe
  have hS : va_S A s.heap s.heap [] := va_S.rf
  have hl := lv_entry ([.ref (a 0), .int (nI (rc))]) (n := 2) (Nat.le_of_ble_eq_true rfl)
  rw [lg_entry_eq]
  generalize (lg_sl ([.ref (a 0), .int (nI (rc))]) ++ List.replicate (2 - (lg_sl ([.ref (a 0), .int (nI (rc))])).length) Slot.unset).toArray = ls at hl ⊢
  have hl : lv_has ls 2 [(0, .ref (a 0)), (1, .int (nI (rc)))] := hl
  generalize hHe : s.heap = H at hP
  have hS : va_S A s.heap H [] := by rw [← hHe]; exact va_S.rf
  clear hHe
  generalize hLe : ([] : List Loc) = locs at hS ⊢
  clear hLe
  refine lv_aload_n hx hb dX3_requireNotBounced_0 rfl (lv_at hl 0 rfl) ?_
  refine va_get (D := D) (ci := 3) (v := .ref (a 13)) (C := RX3) (T := TX3) (N := 4) hx hb hts (fun w h => List.mem_cons_of_mem _ (List.mem_append_left _ (List.mem_append_left _ (List.mem_append_right _ h)))) hown hK hP 0 rfl rfl 1 (by decide) (hts (.fieldLink RX3 19 "CashAllocator" "receiptBook" "LCashAllocator$ReceiptBook;") (by decide +kernel)) (fun _ h9 => h9) rfl dX3_requireNotBounced_1 ?_
  refine va_get (D := D) (ci := 2) (v := .ref (a 19)) (C := RX2) (T := TX2) (N := 9) hx hb hts (fun w h => List.mem_cons_of_mem _ (List.mem_append_left _ (List.mem_append_right _ h))) hown hK hP 13 rfl rfl 5 (by decide) (hts (.fieldLink RX3 161 "CashAllocator$ReceiptBook" "isBounced" "[Z") (by decide +kernel)) (fun _ h9 => h9) rfl dX3_requireNotBounced_4 ?_
  refine lv_iload_n hx hb dX3_requireNotBounced_7 rfl (lv_at hl 1 rfl) ?_
  refine zbld hx hb hK hP 19 (n := 30) (f := (R 5)) rfl (rc) rfl (by omega) (by decide) dX3_requireNotBounced_8 ?_
  refine lv_if_eq (tgt := 22) hx hb dX3_requireNotBounced_9 (by decide) (fun c9 => ?_) (fun c9 => ?_)
  · -- 9 taken
    exact W.vret hx hb hr (fun t ht hW => ⟨⟨(), rfl, trivial, by rw [ht]; exact hP, va_K.moved hW.alike hK, hD⟩, hS.F ht⟩) hS.2.2 dX3_requireNotBounced_22
  · -- 9 on
    exact absurd h1 c9
set_option maxHeartbeats 4000000 in
set_option maxRecDepth 100000 in
theorem c_X3_discountOf (l : Launch) (D : va_G) (cI cZ : ClassId) (a : Nat → Nat) (sz : Nat) (am : Int32) (rt : Int32) : Met l yX3_discountOf wsX3_discountOf ({ frames := 0, cells := 0, slots := 0, locals := 0 } : Room) (va_Pc [.int (am), .int (rt)] (PreW D cI cZ ([] : va_W) sz)) (va_Qi (fun (r : Int32) (u : Unit) => r = dcO am rt) (fun (u : Unit) => PostW D cI cZ (va_A ([] : va_W) sz) ([] : va_W)) (va_A ([] : va_W) sz)) 0 0 (va_A ([] : va_W) sz) := by
  refine Met.ofW (cc := cX3_discountOf) (maxL := 2) (ret := (some .int)) (by decide) rfl ?_
  intro p e s m args below meth c s₁ BB hml hv
  obtain ⟨rfl, hsz, hP, hK, hD0⟩ := hv
  have hx := BB.exec
  have hb := BB.bytes
  have hr := BB.returns
  have hts := atoms_spec (ws := wsX3_discountOf) BB.pre
  have hown : s.vm.findClass RX3 = some m.cls := findClass_of_methodNamed BB.named
  have hlocks := BB.notSynchronized
  clear BB
  subst hsz
  have hD := hD0.self (sz := s.heap.size)
  clear hD0
  generalize hAe : va_A ([] : va_W) s.heap.size = A at hD ⊢
  have hA : ∀ q : Nat, s.heap.size ≤ q → A q := fun q h => by rw [← hAe]; exact Or.inr h
  clear hAe
  have hS : va_S A s.heap s.heap [] := va_S.rf
  have hl := lv_entry ([.int (am), .int (rt)]) (n := 2) (Nat.le_of_ble_eq_true rfl)
  rw [lg_entry_eq]
  generalize (lg_sl ([.int (am), .int (rt)]) ++ List.replicate (2 - (lg_sl ([.int (am), .int (rt)])).length) Slot.unset).toArray = ls at hl ⊢
  have hl : lv_has ls 2 [(0, .int (am)), (1, .int (rt))] := hl
  generalize hHe : s.heap = H at hP
  have hS : va_S A s.heap H [] := by rw [← hHe]; exact va_S.rf
  clear hHe
  generalize hLe : ([] : List Loc) = locs at hS ⊢
  clear hLe
  refine lv_iload_n hx hb dX3_discountOf_0 rfl (lv_at hl 0 rfl) ?_
  refine lv_i2l (v := (am).toInt64) hx hb dX3_discountOf_1 rfl ?_
  refine lv_iload_n hx hb dX3_discountOf_2 rfl (lv_at hl 1 rfl) ?_
  refine lv_i2l (v := (rt).toInt64) hx hb dX3_discountOf_3 rfl ?_
  refine lv_lmul hx hb dX3_discountOf_4 ?_
  refine lv_ldc2 (v := 10000) hx hb hown (hts (.constantLong RX3 225 (10000)) (by decide +kernel)) dX3_discountOf_5 ?_
  refine lv_ldiv hx hb dX3_discountOf_8 (by decide) ?_
  refine lv_l2i (v := ((((am).toInt64) * ((rt).toInt64)) / (10000)).toInt32) hx hb dX3_discountOf_9 rfl ?_
  exact W.iret (v := ((((am).toInt64) * ((rt).toInt64)) / (10000)).toInt32) hx hb hr (fun t ht hW => ⟨⟨((((am).toInt64) * ((rt).toInt64)) / (10000)).toInt32, (), rfl, rfl, by rw [ht]; exact hP, va_K.moved hW.alike hK, hD⟩, hS.F ht⟩) hS.2.2 dX3_discountOf_10
set_option maxHeartbeats 4000000 in
set_option maxRecDepth 100000 in
theorem c_X3_payBill (l : Launch) (D : va_G) (cI cZ : ClassId) (a : Nat → Nat) (sz : Nat) (B : Nat → Nat → Int32) (R : Nat → Nat → Int32) (E : Nat → Nat → Int32) (td : Int32) (rc : Nat) (b : Nat) (hrc : rc < 30) (hbl : b < 40) : Met l yX3_payBill wsX3_payBill ({ frames := 3, cells := 0, slots := 0, locals := 66 } : Room) (va_Pc [.ref (a 0), .int (nI (rc)), .int (nI (b))] (PreW D cI cZ (wCA a cI cZ B R E (td)) sz)) (va_Qi (fun (r : Int32) (u : (Nat → Nat → Int32) × (Nat → Nat → Int32)) => r = b2 (¬ R 3 rc < dueN B b td) ∧ u = (payB B R rc b td, payR B R rc b td)) (fun (u : (Nat → Nat → Int32) × (Nat → Nat → Int32)) => PostW D cI cZ (va_A (wCA a cI cZ B R E (td)) sz) (wCA a cI cZ (u.1) (u.2) E (td))) (va_A (wCA a cI cZ B R E (td)) sz)) 0 0 (va_A (wCA a cI cZ B R E (td)) sz) := by
  refine Met.ofW (cc := cX3_payBill) (maxL := 7) (ret := (some .boolean)) (by decide) rfl ?_
  intro p e s m args below meth c s₁ BB hml hv
  obtain ⟨rfl, hsz, hP, hK, hD0⟩ := hv
  have hx := BB.exec
  have hb := BB.bytes
  have hr := BB.returns
  have hts := atoms_spec (ws := wsX3_payBill) BB.pre
  have hown : s.vm.findClass RX3 = some m.cls := findClass_of_methodNamed BB.named
  have hlocks := BB.notSynchronized
  clear BB
  subst hsz
  have hD := hD0.self (sz := s.heap.size)
  clear hD0
  generalize hAe : va_A (wCA a cI cZ B R E (td)) s.heap.size = A at hD ⊢
  have hA : ∀ q : Nat, s.heap.size ≤ q → A q := fun q h => by rw [← hAe]; exact Or.inr h
  clear hAe
  have hS : va_S A s.heap s.heap [] := va_S.rf
  have hl := lv_entry ([.ref (a 0), .int (nI (rc)), .int (nI (b))]) (n := 7) (Nat.le_of_ble_eq_true rfl)
  rw [lg_entry_eq]
  generalize (lg_sl ([.ref (a 0), .int (nI (rc)), .int (nI (b))]) ++ List.replicate (7 - (lg_sl ([.ref (a 0), .int (nI (rc)), .int (nI (b))])).length) Slot.unset).toArray = ls at hl ⊢
  have hl : lv_has ls 7 [(0, .ref (a 0)), (1, .int (nI (rc))), (2, .int (nI (b)))] := hl
  generalize hHe : s.heap = H at hP
  have hS : va_S A s.heap H [] := by rw [← hHe]; exact va_S.rf
  clear hHe
  generalize hLe : ([] : List Loc) = locs at hS ⊢
  clear hLe
  refine lv_aload_n hx hb dX3_payBill_0 rfl (lv_at hl 0 rfl) ?_
  refine va_get (D := D) (ci := 3) (v := .ref (a 1)) (C := RX3) (T := TX3) (N := 4) hx hb hts (fun w h => List.mem_cons_of_mem _ (List.mem_append_left _ (List.mem_append_left _ (List.mem_append_right _ h)))) hown hK hP 0 rfl rfl 0 (by decide) (hts (.fieldLink RX3 10 "CashAllocator" "billBook" "LCashAllocator$BillBook;") (by decide +kernel)) (fun _ h9 => h9) rfl dX3_payBill_1 ?_
  refine lv_iload_n hx hb dX3_payBill_4 rfl (lv_at hl 2 rfl) ?_
  refine lv_aload_n hx hb dX3_payBill_5 rfl (lv_at hl 0 rfl) ?_
  refine va_get (D := D) (ci := 3) (v := .int (td)) (C := RX3) (T := TX3) (N := 4) hx hb hts (fun w h => List.mem_cons_of_mem _ (List.mem_append_left _ (List.mem_append_left _ (List.mem_append_right _ h)))) hown hK hP 0 rfl rfl 3 (by decide) (hts (.fieldLink RX3 30 "CashAllocator" "today" "I") (by decide +kernel)) (fun _ h9 => h9) rfl dX3_payBill_6 ?_
  refine zcVi (ci := 0) (q0 := 0) (wf := (fun (u : Unit) => (wCA a cI cZ B R E (td)))) ksBB ⟨hx, hb, hml, hown, hts⟩ (zwBB hP hD hS hA) hK (c_X0_dueOn l D cI cZ a H.size (B) (b) (td) (by first | assumption | omega)) (cwV 2 hts gX3_payBill_X0_dueOn rfl rfl rfl (by decide +kernel) ⟨Nat.le_of_ble_eq_true rfl, Nat.le_of_ble_eq_true rfl⟩) rfl rfl (by decide) (fun _ => zkBB _) rfl hl.1 rfl (Nat.le_of_ble_eq_true rfl) dX3_payBill_9 ⟨Nat.le_of_ble_eq_true rfl, Nat.le_of_ble_eq_true rfl⟩ (fun r9 u H locs hw hP hD hS => ?_)
  subst hw
  refine lv_istore_n (lv' := [(3, .int (dueN (B) (b) (td))), (0, .ref (a 0)), (1, .int (nI (rc))), (2, .int (nI (b)))]) hx hb dX3_payBill_12 rfl hl (by decide) rfl (fun ls hl => ?_)
  refine lv_aload_n hx hb dX3_payBill_13 rfl (lv_at hl 1 rfl) ?_
  refine va_get (D := D) (ci := 3) (v := .ref (a 13)) (C := RX3) (T := TX3) (N := 4) hx hb hts (fun w h => List.mem_cons_of_mem _ (List.mem_append_left _ (List.mem_append_left _ (List.mem_append_right _ h)))) hown hK hP 0 rfl rfl 1 (by decide) (hts (.fieldLink RX3 19 "CashAllocator" "receiptBook" "LCashAllocator$ReceiptBook;") (by decide +kernel)) (fun _ h9 => h9) rfl dX3_payBill_14 ?_
  refine va_get (D := D) (ci := 2) (v := .ref (a 17)) (C := RX2) (T := TX2) (N := 9) hx hb hts (fun w h => List.mem_cons_of_mem _ (List.mem_append_left _ (List.mem_append_right _ h))) hown hK hP 13 rfl rfl 3 (by decide) (hts (.fieldLink RX3 85 "CashAllocator$ReceiptBook" "unapplied" "[I") (by decide +kernel)) (fun _ h9 => h9) rfl dX3_payBill_17 ?_
  refine lv_iload_n hx hb dX3_payBill_20 rfl (lv_at hl 2 rfl) ?_
  refine zald hx hb hK hP 17 (n := 30) (f := (R 3)) rfl (rc) rfl (by omega) (by decide) dX3_payBill_21 ?_
  refine lv_istore (lv' := [(4, .int (R 3 (rc))), (3, .int (dueN (B) (b) (td))), (0, .ref (a 0)), (1, .int (nI (rc))), (2, .int (nI (b)))]) hx hb dX3_payBill_22 hl (by decide) rfl (fun ls hl => ?_)
  refine lv_iload hx hb dX3_payBill_24 (lv_at hl 0 rfl) ?_
  refine lv_iload_n hx hb dX3_payBill_26 rfl (lv_at hl 1 rfl) ?_
  refine lv_icmp_lt (tgt := 34) hx hb dX3_payBill_27 (by decide) (fun c27 => ?_) (fun c27 => ?_)
  · -- 27 taken
    refine lv_iconst (v := 0) hx hb dX3_payBill_34 (by decide) ?_
    refine lv_istore (lv' := [(5, .int (0)), (4, .int (R 3 (rc))), (3, .int (dueN (B) (b) (td))), (0, .ref (a 0)), (1, .int (nI (rc))), (2, .int (nI (b)))]) hx hb dX3_payBill_35 hl (by decide) rfl (fun ls hl => ?_)
    refine lv_iload hx hb dX3_payBill_37 (lv_at hl 0 rfl) ?_
    refine lv_if_eq (tgt := 55) hx hb dX3_payBill_39 (by decide) (fun c39 => ?_) (fun c39 => ?_)
    · -- 39 taken
      refine lv_iload hx hb dX3_payBill_55 (lv_at hl 0 rfl) ?_
      refine lv_if_eq (tgt := 64) hx hb dX3_payBill_57 (by decide) (fun c57 => ?_) (fun c57 => ?_)
      · -- 57 taken
        refine lv_iload hx hb dX3_payBill_64 (lv_at hl 1 rfl) ?_
        refine lv_istore (lv' := [(6, .int (R 3 (rc))), (5, .int (0)), (4, .int (R 3 (rc))), (3, .int (dueN (B) (b) (td))), (0, .ref (a 0)), (1, .int (nI (rc))), (2, .int (nI (b)))]) hx hb dX3_payBill_66 hl (by decide) rfl (fun ls hl => ?_)
        refine lv_aload_n hx hb dX3_payBill_68 rfl (lv_at hl 4 rfl) ?_
        refine va_get (D := D) (ci := 3) (v := .ref (a 1)) (C := RX3) (T := TX3) (N := 4) hx hb hts (fun w h => List.mem_cons_of_mem _ (List.mem_append_left _ (List.mem_append_left _ (List.mem_append_right _ h)))) hown hK hP 0 rfl rfl 0 (by decide) (hts (.fieldLink RX3 10 "CashAllocator" "billBook" "LCashAllocator$BillBook;") (by decide +kernel)) (fun _ h9 => h9) rfl dX3_payBill_69 ?_
        refine va_get (D := D) (ci := 0) (v := .ref (a 7)) (C := RX0) (T := TX0) (N := 12) hx hb hts (fun w h => List.mem_cons_of_mem _ (List.mem_append_right _ h)) hown hK hP 1 rfl rfl 5 (by decide) (hts (.fieldLink RX3 135 "CashAllocator$BillBook" "paid" "[I") (by decide +kernel)) (fun _ h9 => h9) rfl dX3_payBill_72 ?_
        refine lv_iload_n hx hb dX3_payBill_75 rfl (lv_at hl 6 rfl) ?_
        refine lv_dup2_11 hx hb dX3_payBill_76 rfl rfl ?_
        refine zald hx hb hK hP 7 (n := 40) (f := (B 5)) rfl (b) rfl (by omega) (by decide) dX3_payBill_77 ?_
        refine lv_iload hx hb dX3_payBill_78 (lv_at hl 0 rfl) ?_
        refine lv_iadd hx hb dX3_payBill_80 ?_
        refine zast hx hb hK hP hD hS 7 (n := 40) (f := (B 5)) rfl (b) rfl (by omega) (by decide) (wCA a cI cZ (pt B 5 (b) ((B 5 (b)) + (R 3 (rc)))) R E (td)) rfl dX3_payBill_81 (fun H locs hP hD hS => ?_)
        refine lv_aload_n hx hb dX3_payBill_82 rfl (lv_at hl 4 rfl) ?_
        refine va_get (D := D) (ci := 3) (v := .ref (a 13)) (C := RX3) (T := TX3) (N := 4) hx hb hts (fun w h => List.mem_cons_of_mem _ (List.mem_append_left _ (List.mem_append_left _ (List.mem_append_right _ h)))) hown hK hP 0 rfl rfl 1 (by decide) (hts (.fieldLink RX3 19 "CashAllocator" "receiptBook" "LCashAllocator$ReceiptBook;") (by decide +kernel)) (fun _ h9 => h9) rfl dX3_payBill_83 ?_
        refine lv_iload_n hx hb dX3_payBill_86 rfl (lv_at hl 5 rfl) ?_
        refine lv_iload_n hx hb dX3_payBill_87 rfl (lv_at hl 6 rfl) ?_
        refine lv_iload hx hb dX3_payBill_88 (lv_at hl 0 rfl) ?_
        refine zcVv (ci := 2) (q0 := 0) (wf := (fun (u : Nat → Nat → Int32) => (wCA a cI cZ (pt B 5 (b) ((B 5 (b)) + (R 3 (rc)))) u E (td)))) ksRB ⟨hx, hb, hml, hown, hts⟩ (zwRB hP hD hS hA) hK (c_X2_addPayment l D cI cZ a H.size (R) (rc) (b) (R 3 (rc)) (by first | assumption | omega) (by first | assumption | omega)) (cwV 3 hts gX3_payBill_X2_addPayment rfl rfl rfl (by decide +kernel) ⟨Nat.le_of_ble_eq_true rfl, Nat.le_of_ble_eq_true rfl⟩) rfl rfl (by decide) (fun _ => zkRB _) rfl hl.1 rfl (Nat.le_of_ble_eq_true rfl) dX3_payBill_90 ⟨Nat.le_of_ble_eq_true rfl, Nat.le_of_ble_eq_true rfl⟩ (fun u H locs hw hP hD hS => ?_)
        subst hw
        have hP : va_P D vwCl (wCA a cI cZ (pt B 5 (b) ((B 5 (b)) + (R 3 (rc)))) (addP (R) (rc) (b) (R 3 (rc))) E (td)) H := hP
        have hD : va_D A (wCA a cI cZ (pt B 5 (b) ((B 5 (b)) + (R 3 (rc)))) (addP (R) (rc) (b) (R 3 (rc))) E (td)) := hD
        refine lv_iload hx hb dX3_payBill_93 (lv_at hl 1 rfl) ?_
        exact W.zret (ty := .boolean) (v := 0) hx hb hr (by decide) (fun t ht hW => ⟨⟨0, ((pt B 5 (b) ((B 5 (b)) + (R 3 (rc)))), (addP (R) (rc) (b) (R 3 (rc)))), rfl, ⟨by simp [b2, c27], by unfold payB payR payS; first | (rw [if_pos c27, if_pos c27]; done) | (rw [if_neg c27, if_neg c27]; done)⟩, by rw [ht]; exact hP, va_K.moved hW.alike hK, hD⟩, hS.F ht⟩) hS.2.2 dX3_payBill_95
      · -- 57 on
        exact absurd c57 (by decide)
    · -- 39 on
      exact absurd c39 (by decide)
  · -- 27 on
    refine lv_iconst (v := 1) hx hb dX3_payBill_30 (by decide) ?_
    refine lv_goto (tgt := 35) hx hb dX3_payBill_31 (by decide) ?_
    refine lv_istore (lv' := [(5, .int (1)), (4, .int (R 3 (rc))), (3, .int (dueN (B) (b) (td))), (0, .ref (a 0)), (1, .int (nI (rc))), (2, .int (nI (b)))]) hx hb dX3_payBill_35 hl (by decide) rfl (fun ls hl => ?_)
    refine lv_iload hx hb dX3_payBill_37 (lv_at hl 0 rfl) ?_
    refine lv_if_eq (tgt := 55) hx hb dX3_payBill_39 (by decide) (fun c39 => ?_) (fun c39 => ?_)
    · -- 39 taken
      exact absurd c39 (by decide)
    · -- 39 on
      refine lv_aload_n hx hb dX3_payBill_42 rfl (lv_at hl 3 rfl) ?_
      refine va_get (D := D) (ci := 3) (v := .ref (a 1)) (C := RX3) (T := TX3) (N := 4) hx hb hts (fun w h => List.mem_cons_of_mem _ (List.mem_append_left _ (List.mem_append_left _ (List.mem_append_right _ h)))) hown hK hP 0 rfl rfl 0 (by decide) (hts (.fieldLink RX3 10 "CashAllocator" "billBook" "LCashAllocator$BillBook;") (by decide +kernel)) (fun _ h9 => h9) rfl dX3_payBill_43 ?_
      refine lv_iload_n hx hb dX3_payBill_46 rfl (lv_at hl 5 rfl) ?_
      refine lv_iload_n hx hb dX3_payBill_47 rfl (lv_at hl 4 rfl) ?_
      refine lv_aload_n hx hb dX3_payBill_48 rfl (lv_at hl 3 rfl) ?_
      refine va_get (D := D) (ci := 3) (v := .int (td)) (C := RX3) (T := TX3) (N := 4) hx hb hts (fun w h => List.mem_cons_of_mem _ (List.mem_append_left _ (List.mem_append_left _ (List.mem_append_right _ h)))) hown hK hP 0 rfl rfl 3 (by decide) (hts (.fieldLink RX3 30 "CashAllocator" "today" "I") (by decide +kernel)) (fun _ h9 => h9) rfl dX3_payBill_49 ?_
      refine zcVv (ci := 0) (q0 := 0) (wf := (fun (u : Nat → Nat → Int32) => (wCA a cI cZ u R E (td)))) ksBB ⟨hx, hb, hml, hown, hts⟩ (zwBB hP hD hS hA) hK (c_X0_takeDiscount l D cI cZ a H.size (B) (b) (nI (rc)) (td) (by first | assumption | omega)) (cwV 3 hts gX3_payBill_X0_takeDiscount rfl rfl rfl (by decide +kernel) ⟨Nat.le_of_ble_eq_true rfl, Nat.le_of_ble_eq_true rfl⟩) rfl rfl (by decide) (fun _ => zkBB _) rfl hl.1 rfl (Nat.le_of_ble_eq_true rfl) dX3_payBill_52 ⟨Nat.le_of_ble_eq_true rfl, Nat.le_of_ble_eq_true rfl⟩ (fun u H locs hw hP hD hS => ?_)
      subst hw
      have hP : va_P D vwCl (wCA a cI cZ (tkD (B) (b) (nI (rc)) (td)) R E (td)) H := hP
      have hD : va_D A (wCA a cI cZ (tkD (B) (b) (nI (rc)) (td)) R E (td)) := hD
      refine lv_iload hx hb dX3_payBill_55 (lv_at hl 0 rfl) ?_
      refine lv_if_eq (tgt := 64) hx hb dX3_payBill_57 (by decide) (fun c57 => ?_) (fun c57 => ?_)
      · -- 57 taken
        exact absurd c57 (by decide)
      · -- 57 on
        refine lv_iload_n hx hb dX3_payBill_60 rfl (lv_at hl 2 rfl) ?_
        refine lv_goto (tgt := 66) hx hb dX3_payBill_61 (by decide) ?_
        refine lv_istore (lv' := [(6, .int (dueN (B) (b) (td))), (5, .int (1)), (4, .int (R 3 (rc))), (3, .int (dueN (B) (b) (td))), (0, .ref (a 0)), (1, .int (nI (rc))), (2, .int (nI (b)))]) hx hb dX3_payBill_66 hl (by decide) rfl (fun ls hl => ?_)
        refine lv_aload_n hx hb dX3_payBill_68 rfl (lv_at hl 4 rfl) ?_
        refine va_get (D := D) (ci := 3) (v := .ref (a 1)) (C := RX3) (T := TX3) (N := 4) hx hb hts (fun w h => List.mem_cons_of_mem _ (List.mem_append_left _ (List.mem_append_left _ (List.mem_append_right _ h)))) hown hK hP 0 rfl rfl 0 (by decide) (hts (.fieldLink RX3 10 "CashAllocator" "billBook" "LCashAllocator$BillBook;") (by decide +kernel)) (fun _ h9 => h9) rfl dX3_payBill_69 ?_
        refine va_get (D := D) (ci := 0) (v := .ref (a 7)) (C := RX0) (T := TX0) (N := 12) hx hb hts (fun w h => List.mem_cons_of_mem _ (List.mem_append_right _ h)) hown hK hP 1 rfl rfl 5 (by decide) (hts (.fieldLink RX3 135 "CashAllocator$BillBook" "paid" "[I") (by decide +kernel)) (fun _ h9 => h9) rfl dX3_payBill_72 ?_
        refine lv_iload_n hx hb dX3_payBill_75 rfl (lv_at hl 6 rfl) ?_
        refine lv_dup2_11 hx hb dX3_payBill_76 rfl rfl ?_
        refine zald hx hb hK hP 7 (n := 40) (f := ((tkD (B) (b) (nI (rc)) (td)) 5)) rfl (b) rfl (by omega) (by decide) dX3_payBill_77 ?_
        refine lv_iload hx hb dX3_payBill_78 (lv_at hl 0 rfl) ?_
        refine lv_iadd hx hb dX3_payBill_80 ?_
        refine zast hx hb hK hP hD hS 7 (n := 40) (f := ((tkD (B) (b) (nI (rc)) (td)) 5)) rfl (b) rfl (by omega) (by decide) (wCA a cI cZ (pt (tkD (B) (b) (nI (rc)) (td)) 5 (b) (((tkD (B) (b) (nI (rc)) (td)) 5 (b)) + (dueN (B) (b) (td)))) R E (td)) rfl dX3_payBill_81 (fun H locs hP hD hS => ?_)
        refine lv_aload_n hx hb dX3_payBill_82 rfl (lv_at hl 4 rfl) ?_
        refine va_get (D := D) (ci := 3) (v := .ref (a 13)) (C := RX3) (T := TX3) (N := 4) hx hb hts (fun w h => List.mem_cons_of_mem _ (List.mem_append_left _ (List.mem_append_left _ (List.mem_append_right _ h)))) hown hK hP 0 rfl rfl 1 (by decide) (hts (.fieldLink RX3 19 "CashAllocator" "receiptBook" "LCashAllocator$ReceiptBook;") (by decide +kernel)) (fun _ h9 => h9) rfl dX3_payBill_83 ?_
        refine lv_iload_n hx hb dX3_payBill_86 rfl (lv_at hl 5 rfl) ?_
        refine lv_iload_n hx hb dX3_payBill_87 rfl (lv_at hl 6 rfl) ?_
        refine lv_iload hx hb dX3_payBill_88 (lv_at hl 0 rfl) ?_
        refine zcVv (ci := 2) (q0 := 0) (wf := (fun (u : Nat → Nat → Int32) => (wCA a cI cZ (pt (tkD (B) (b) (nI (rc)) (td)) 5 (b) (((tkD (B) (b) (nI (rc)) (td)) 5 (b)) + (dueN (B) (b) (td)))) u E (td)))) ksRB ⟨hx, hb, hml, hown, hts⟩ (zwRB hP hD hS hA) hK (c_X2_addPayment l D cI cZ a H.size (R) (rc) (b) (dueN (B) (b) (td)) (by first | assumption | omega) (by first | assumption | omega)) (cwV 3 hts gX3_payBill_X2_addPayment rfl rfl rfl (by decide +kernel) ⟨Nat.le_of_ble_eq_true rfl, Nat.le_of_ble_eq_true rfl⟩) rfl rfl (by decide) (fun _ => zkRB _) rfl hl.1 rfl (Nat.le_of_ble_eq_true rfl) dX3_payBill_90 ⟨Nat.le_of_ble_eq_true rfl, Nat.le_of_ble_eq_true rfl⟩ (fun u H locs hw hP hD hS => ?_)
        subst hw
        have hP : va_P D vwCl (wCA a cI cZ (pt (tkD (B) (b) (nI (rc)) (td)) 5 (b) (((tkD (B) (b) (nI (rc)) (td)) 5 (b)) + (dueN (B) (b) (td)))) (addP (R) (rc) (b) (dueN (B) (b) (td))) E (td)) H := hP
        have hD : va_D A (wCA a cI cZ (pt (tkD (B) (b) (nI (rc)) (td)) 5 (b) (((tkD (B) (b) (nI (rc)) (td)) 5 (b)) + (dueN (B) (b) (td)))) (addP (R) (rc) (b) (dueN (B) (b) (td))) E (td)) := hD
        refine lv_iload hx hb dX3_payBill_93 (lv_at hl 1 rfl) ?_
        exact W.zret (ty := .boolean) (v := 1) hx hb hr (by decide) (fun t ht hW => ⟨⟨1, ((pt (tkD (B) (b) (nI (rc)) (td)) 5 (b) (((tkD (B) (b) (nI (rc)) (td)) 5 (b)) + (dueN (B) (b) (td)))), (addP (R) (rc) (b) (dueN (B) (b) (td)))), rfl, ⟨by simp [b2, c27], by unfold payB payR payS; first | (rw [if_pos c27, if_pos c27]; done) | (rw [if_neg c27, if_neg c27]; done)⟩, by rw [ht]; exact hP, va_K.moved hW.alike hK, hD⟩, hS.F ht⟩) hS.2.2 dX3_payBill_95
set_option maxHeartbeats 4000000 in
set_option maxRecDepth 100000 in
theorem c_X3_payOldestBills (l : Launch) (D : va_G) (cI cZ : ClassId) (a : Nat → Nat) (sz : Nat) (B : Nat → Nat → Int32) (R : Nat → Nat → Int32) (E : Nat → Nat → Int32) (td : Int32) (rc : Nat) (n : Nat) (hrc : rc < 30) (hB : B 11 0 = nI n) (hn : n ≤ 40) : Met l yX3_payOldestBills wsX3_payOldestBills ({ frames := 4, cells := 0, slots := 0, locals := 92 } : Room) (va_Pc [.ref (a 0), .int (nI (rc))] (PreW D cI cZ (wCA a cI cZ B R E (td)) sz)) (va_Qv (fun (u : (Nat → Nat → Int32) × (Nat → Nat → Int32)) => u = oldL rc (R 0 rc) td n 0 B R) (fun (u : (Nat → Nat → Int32) × (Nat → Nat → Int32)) => PostW D cI cZ (va_A (wCA a cI cZ B R E (td)) sz) (wCA a cI cZ (u.1) (u.2) E (td))) (va_A (wCA a cI cZ B R E (td)) sz)) 0 0 (va_A (wCA a cI cZ B R E (td)) sz) := by
  refine Met.ofW (cc := cX3_payOldestBills) (maxL := 4) (ret := none) (by decide) rfl ?_
  intro p e s m args below meth c s₁ BB hml hv
  obtain ⟨rfl, hsz, hP, hK, hD0⟩ := hv
  have hx := BB.exec
  have hb := BB.bytes
  have hr := BB.returns
  have hts := atoms_spec (ws := wsX3_payOldestBills) BB.pre
  have hown : s.vm.findClass RX3 = some m.cls := findClass_of_methodNamed BB.named
  have hlocks := BB.notSynchronized
  clear BB
  subst hsz
  have hD := hD0.self (sz := s.heap.size)
  clear hD0
  generalize hAe : va_A (wCA a cI cZ B R E (td)) s.heap.size = A at hD ⊢
  have hA : ∀ q : Nat, s.heap.size ≤ q → A q := fun q h => by rw [← hAe]; exact Or.inr h
  clear hAe
  have hS : va_S A s.heap s.heap [] := va_S.rf
  have hl := lv_entry ([.ref (a 0), .int (nI (rc))]) (n := 4) (Nat.le_of_ble_eq_true rfl)
  rw [lg_entry_eq]
  generalize (lg_sl ([.ref (a 0), .int (nI (rc))]) ++ List.replicate (4 - (lg_sl ([.ref (a 0), .int (nI (rc))])).length) Slot.unset).toArray = ls at hl ⊢
  have hl : lv_has ls 4 [(0, .ref (a 0)), (1, .int (nI (rc)))] := hl
  generalize hHe : s.heap = H at hP
  have hS : va_S A s.heap H [] := by rw [← hHe]; exact va_S.rf
  clear hHe
  generalize hLe : ([] : List Loc) = locs at hS ⊢
  clear hLe
  refine lv_aload_n hx hb dX3_payOldestBills_0 rfl (lv_at hl 0 rfl) ?_
  refine va_get (D := D) (ci := 3) (v := .ref (a 13)) (C := RX3) (T := TX3) (N := 4) hx hb hts (fun w h => List.mem_cons_of_mem _ (List.mem_append_left _ (List.mem_append_left _ (List.mem_append_right _ h)))) hown hK hP 0 rfl rfl 1 (by decide) (hts (.fieldLink RX3 19 "CashAllocator" "receiptBook" "LCashAllocator$ReceiptBook;") (by decide +kernel)) (fun _ h9 => h9) rfl dX3_payOldestBills_1 ?_
  refine va_get (D := D) (ci := 2) (v := .ref (a 14)) (C := RX2) (T := TX2) (N := 9) hx hb hts (fun w h => List.mem_cons_of_mem _ (List.mem_append_left _ (List.mem_append_right _ h))) hown hK hP 13 rfl rfl 0 (by decide) (hts (.fieldLink RX3 79 "CashAllocator$ReceiptBook" "customer" "[I") (by decide +kernel)) (fun _ h9 => h9) rfl dX3_payOldestBills_4 ?_
  refine lv_iload_n hx hb dX3_payOldestBills_7 rfl (lv_at hl 1 rfl) ?_
  refine zald hx hb hK hP 14 (n := 30) (f := (R 0)) rfl (rc) rfl (by omega) (by decide) dX3_payOldestBills_8 ?_
  refine lv_istore_n (lv' := [(2, .int (R 0 (rc))), (0, .ref (a 0)), (1, .int (nI (rc)))]) hx hb dX3_payOldestBills_9 rfl hl (by decide) rfl (fun ls hl => ?_)
  refine lv_iconst (v := nI (0)) hx hb dX3_payOldestBills_10 (by decide) ?_
  refine lv_istore_n (lv' := [(3, .int (nI (0))), (2, .int (R 0 (rc))), (0, .ref (a 0)), (1, .int (nI (rc)))]) hx hb dX3_payOldestBills_11 rfl hl (by decide) rfl (fun ls hl => ?_)
  have loop12 : ∀ (fu : Nat) (i : Nat) (Bi : Nat → Nat → Int32) (Ri : Nat → Nat → Int32) (hin : i ≤ n) (hBi : Bi 11 0 = nI n) (hg : oldL rc (R 0 rc) td n 0 B R = oldL rc (R 0 rc) td (n - i) i Bi Ri) (hfu : n - i < fu) (H : Heap) (locs : List Loc) (hP : va_P D vwCl (wCA a cI cZ Bi Ri E (td)) H) (hD : va_D A (wCA a cI cZ Bi Ri E (td))) (hS : va_S A s.heap H locs) (ls : Array Slot) (hl : lv_has ls 4 [(3, .int (nI (i))), (2, .int (R 0 (rc))), (0, .ref (a 0)), (1, .int (nI (rc)))]), W p l e (headSpec wsX3_payOldestBills ({ frames := 4, cells := 0, slots := 0, locals := 92 } : Room)).room s m ([.ref (a 0), .int (nI (rc))] : List Value).toArray below meth c H locs 0 0 (MQ below (va_Qv (fun (u : (Nat → Nat → Int32) × (Nat → Nat → Int32)) => u = oldL rc (R 0 rc) td n 0 B R) (fun (u : (Nat → Nat → Int32) × (Nat → Nat → Int32)) => PostW D cI cZ A (wCA a cI cZ (u.1) (u.2) E (td))) A) ([.ref (a 0), .int (nI (rc))] : List Value).toArray s 0 0 A) (F0 m 12 ls []) := by
    clear hP hD hS hl
    intro fu12
    induction fu12 with
    | zero => intro i Bi Ri hin hBi hg hfu; exact absurd hfu (Nat.not_lt_zero _)
    | succ fu12 ih12 =>
      intro i Bi Ri hin hBi hg hfu H locs hP hD hS ls hl
      refine lv_iload_n hx hb dX3_payOldestBills_12 rfl (lv_at hl 0 rfl) ?_
      refine lv_aload_n hx hb dX3_payOldestBills_13 rfl (lv_at hl 2 rfl) ?_
      refine va_get (D := D) (ci := 3) (v := .ref (a 1)) (C := RX3) (T := TX3) (N := 4) hx hb hts (fun w h => List.mem_cons_of_mem _ (List.mem_append_left _ (List.mem_append_left _ (List.mem_append_right _ h)))) hown hK hP 0 rfl rfl 0 (by decide) (hts (.fieldLink RX3 10 "CashAllocator" "billBook" "LCashAllocator$BillBook;") (by decide +kernel)) (fun _ h9 => h9) rfl dX3_payOldestBills_14 ?_
      refine va_get (D := D) (ci := 0) (v := .int (nI (n))) (C := RX0) (T := TX0) (N := 12) hx hb hts (fun w h => List.mem_cons_of_mem _ (List.mem_append_right _ h)) hown hK hP 1 rfl rfl 11 (by decide) (hts (.fieldLink RX3 43 "CashAllocator$BillBook" "count" "I") (by decide +kernel)) (fun _ h9 => h9) (congrArg (fun z => some (Value.int z)) hBi) dX3_payOldestBills_17 ?_
      refine lv_icmp_ge (tgt := 60) hx hb dX3_payOldestBills_20 (by decide) (fun c20 => ?_) (fun c20 => ?_)
      · -- 20 taken
        rw [nI_leI (by omega) (by omega)] at c20
        have hfin : (Bi, Ri) = oldL rc (R 0 rc) td n 0 B R := by rw [hg, show n - i = 0 by omega]; rfl
        exact W.vret hx hb hr (fun t ht hW => ⟨⟨(Bi, Ri), rfl, hfin, by rw [ht]; exact hP, va_K.moved hW.alike hK, hD⟩, hS.F ht⟩) hS.2.2 dX3_payOldestBills_60
      · -- 20 on
        rw [nI_leI (by omega) (by omega)] at c20
        have c20 : i < n := by omega
        have hk : n - i = (n - (i + 1)) + 1 := by omega
        rw [hk] at hg
        refine lv_aload_n hx hb dX3_payOldestBills_23 rfl (lv_at hl 2 rfl) ?_
        refine va_get (D := D) (ci := 3) (v := .ref (a 13)) (C := RX3) (T := TX3) (N := 4) hx hb hts (fun w h => List.mem_cons_of_mem _ (List.mem_append_left _ (List.mem_append_left _ (List.mem_append_right _ h)))) hown hK hP 0 rfl rfl 1 (by decide) (hts (.fieldLink RX3 19 "CashAllocator" "receiptBook" "LCashAllocator$ReceiptBook;") (by decide +kernel)) (fun _ h9 => h9) rfl dX3_payOldestBills_24 ?_
        refine va_get (D := D) (ci := 2) (v := .ref (a 17)) (C := RX2) (T := TX2) (N := 9) hx hb hts (fun w h => List.mem_cons_of_mem _ (List.mem_append_left _ (List.mem_append_right _ h))) hown hK hP 13 rfl rfl 3 (by decide) (hts (.fieldLink RX3 85 "CashAllocator$ReceiptBook" "unapplied" "[I") (by decide +kernel)) (fun _ h9 => h9) rfl dX3_payOldestBills_27 ?_
        refine lv_iload_n hx hb dX3_payOldestBills_30 rfl (lv_at hl 3 rfl) ?_
        refine zald hx hb hK hP 17 (n := 30) (f := (Ri 3)) rfl (rc) rfl (by omega) (by decide) dX3_payOldestBills_31 ?_
        refine lv_if_le (tgt := 60) hx hb dX3_payOldestBills_32 (by decide) (fun c32 => ?_) (fun c32 => ?_)
        · -- 32 taken
          have hfin : (Bi, Ri) = oldL rc (R 0 rc) td n 0 B R := by rw [hg, oldL, if_pos c32]
          exact W.vret hx hb hr (fun t ht hW => ⟨⟨(Bi, Ri), rfl, hfin, by rw [ht]; exact hP, va_K.moved hW.alike hK, hD⟩, hS.F ht⟩) hS.2.2 dX3_payOldestBills_60
        · -- 32 on
          refine lv_aload_n hx hb dX3_payOldestBills_35 rfl (lv_at hl 2 rfl) ?_
          refine va_get (D := D) (ci := 3) (v := .ref (a 1)) (C := RX3) (T := TX3) (N := 4) hx hb hts (fun w h => List.mem_cons_of_mem _ (List.mem_append_left _ (List.mem_append_left _ (List.mem_append_right _ h)))) hown hK hP 0 rfl rfl 0 (by decide) (hts (.fieldLink RX3 10 "CashAllocator" "billBook" "LCashAllocator$BillBook;") (by decide +kernel)) (fun _ h9 => h9) rfl dX3_payOldestBills_36 ?_
          refine lv_iload_n hx hb dX3_payOldestBills_39 rfl (lv_at hl 0 rfl) ?_
          refine lv_iload_n hx hb dX3_payOldestBills_40 rfl (lv_at hl 1 rfl) ?_
          refine zcVi (ci := 0) (q0 := 0) (wf := (fun (u : Unit) => (wCA a cI cZ Bi Ri E (td)))) ksBB ⟨hx, hb, hml, hown, hts⟩ (zwBB hP hD hS hA) hK (c_X0_isOpenFor l D cI cZ a H.size (Bi) (i) (R 0 (rc)) (by first | assumption | omega)) (cwV 2 hts gX3_payOldestBills_X0_isOpenFor rfl rfl rfl (by decide +kernel) ⟨Nat.le_of_ble_eq_true rfl, Nat.le_of_ble_eq_true rfl⟩) rfl rfl (by decide) (fun _ => zkBB _) rfl hl.1 rfl (Nat.le_of_ble_eq_true rfl) dX3_payOldestBills_41 ⟨Nat.le_of_ble_eq_true rfl, Nat.le_of_ble_eq_true rfl⟩ (fun r41 u H locs hw hP hD hS => ?_)
          subst hw
          refine lv_if_eq (tgt := 54) hx hb dX3_payOldestBills_44 (by decide) (fun c44 => ?_) (fun c44 => ?_)
          · -- 44 taken
            have c44 := b2_0 c44
            have hg2 : oldL rc (R 0 rc) td n 0 B R = oldL rc (R 0 rc) td (n - (i + 1)) (i + 1) Bi Ri := by rw [hg, oldL, if_neg c32, if_neg c44]
            refine lv_iinc (v := nI (i + 1)) (lv' := [(3, .int (nI (i + 1))), (2, .int (R 0 (rc))), (0, .ref (a 0)), (1, .int (nI (rc)))]) hx hb dX3_payOldestBills_54 hl (k := 0) rfl (nI_1 _) (by decide) rfl (fun ls hl => ?_)
            refine lv_goto (tgt := 12) hx hb dX3_payOldestBills_57 (by decide) ?_
            exact ih12 (i + 1) (Bi) (Ri) (by omega) hBi hg2 (by omega) _ _ hP hD hS _ (lv_sub hl [0, 1, 2, 3] rfl)
          · -- 44 on
            have c44 := b2_1 c44
            have hg2 : oldL rc (R 0 rc) td n 0 B R = oldL rc (R 0 rc) td (n - (i + 1)) (i + 1) (payB Bi Ri rc i td) (payR Bi Ri rc i td) := by rw [hg, oldL, if_neg c32, if_pos c44]
            refine lv_aload_n hx hb dX3_payOldestBills_47 rfl (lv_at hl 2 rfl) ?_
            refine lv_iload_n hx hb dX3_payOldestBills_48 rfl (lv_at hl 3 rfl) ?_
            refine lv_iload_n hx hb dX3_payOldestBills_49 rfl (lv_at hl 0 rfl) ?_
            refine zcVi (ci := 3) (q0 := 0) (wf := (fun (u : (Nat → Nat → Int32) × (Nat → Nat → Int32)) => (wCA a cI cZ (u.1) (u.2) E (td)))) (List.range 26) ⟨hx, hb, hml, hown, hts⟩ (zwAll 26 (by decide) rfl hP hD hS hA) hK (c_X3_payBill l D cI cZ a H.size (Bi) (Ri) (E) (td) (rc) (i) (by first | assumption | omega) (by first | assumption | omega)) (cwV 2 hts gX3_payOldestBills_X3_payBill rfl rfl rfl (by decide +kernel) ⟨Nat.le_of_ble_eq_true rfl, Nat.le_of_ble_eq_true rfl⟩) rfl rfl (by decide) (fun _ => rfl) rfl hl.1 rfl (Nat.le_of_ble_eq_true rfl) dX3_payOldestBills_50 ⟨Nat.le_of_ble_eq_true rfl, Nat.le_of_ble_eq_true rfl⟩ (fun r50 u H locs hw hP hD hS => ?_)
            obtain ⟨rfl, rfl⟩ := hw
            have hP : va_P D vwCl (wCA a cI cZ (payB (Bi) (Ri) (rc) (i) (td)) (payR (Bi) (Ri) (rc) (i) (td)) E (td)) H := hP
            have hD : va_D A (wCA a cI cZ (payB (Bi) (Ri) (rc) (i) (td)) (payR (Bi) (Ri) (rc) (i) (td)) E (td)) := hD
            refine lv_pop hx hb dX3_payOldestBills_53 rfl ?_
            refine lv_iinc (v := nI (i + 1)) (lv' := [(3, .int (nI (i + 1))), (2, .int (R 0 (rc))), (0, .ref (a 0)), (1, .int (nI (rc)))]) hx hb dX3_payOldestBills_54 hl (k := 0) rfl (nI_1 _) (by decide) rfl (fun ls hl => ?_)
            refine lv_goto (tgt := 12) hx hb dX3_payOldestBills_57 (by decide) ?_
            exact ih12 (i + 1) ((payB (Bi) (Ri) (rc) (i) (td))) ((payR (Bi) (Ri) (rc) (i) (td))) (by omega) (by rw [payB_n]; exact hBi) hg2 (by omega) _ _ hP hD hS _ (lv_sub hl [0, 1, 2, 3] rfl)
  exact loop12 _ (0) (B) (R) (Nat.zero_le _) (hB) (rfl) (Nat.lt_succ_self _) _ _ hP hD hS _ (lv_sub hl [0, 1, 2, 3] rfl)
set_option maxHeartbeats 4000000 in
set_option maxRecDepth 100000 in
theorem c_X3_chooseExactSet (l : Launch) (D : va_G) (cI cZ : ClassId) (a : Nat → Nat) (sz : Nat) (B : Nat → Nat → Int32) (R : Nat → Nat → Int32) (E : Nat → Nat → Int32) (td : Int32) (n : Nat) (cu : Int32) (sm : Int32) (hB : B 11 0 = nI n) (hn : n ≤ 40) : Met l yX3_chooseExactSet wsX3_chooseExactSet ({ frames := 3, cells := 0, slots := 0, locals := 68 } : Room) (va_Pc [.ref (a 0), .int (cu), .int (sm)] (PreW D cI cZ (wCA a cI cZ B R E (td)) sz)) (va_Qv (fun (u : Nat → Nat → Int32) => u = cesE B E cu sm td n) (fun (u : Nat → Nat → Int32) => PostW D cI cZ (va_A (wCA a cI cZ B R E (td)) sz) (wCA a cI cZ B R u (td))) (va_A (wCA a cI cZ B R E (td)) sz)) 0 0 (va_A (wCA a cI cZ B R E (td)) sz) := by
  refine Met.ofW (cc := cX3_chooseExactSet) (maxL := 4) (ret := none) (by decide) rfl ?_
  intro p e s m args below meth c s₁ BB hml hv
  obtain ⟨rfl, hsz, hP, hK, hD0⟩ := hv
  have hx := BB.exec
  have hb := BB.bytes
  have hr := BB.returns
  have hts := atoms_spec (ws := wsX3_chooseExactSet) BB.pre
  have hown : s.vm.findClass RX3 = some m.cls := findClass_of_methodNamed BB.named
  have hlocks := BB.notSynchronized
  clear BB
  subst hsz
  have hD := hD0.self (sz := s.heap.size)
  clear hD0
  generalize hAe : va_A (wCA a cI cZ B R E (td)) s.heap.size = A at hD ⊢
  have hA : ∀ q : Nat, s.heap.size ≤ q → A q := fun q h => by rw [← hAe]; exact Or.inr h
  clear hAe
  have hS : va_S A s.heap s.heap [] := va_S.rf
  have hl := lv_entry ([.ref (a 0), .int (cu), .int (sm)]) (n := 4) (Nat.le_of_ble_eq_true rfl)
  rw [lg_entry_eq]
  generalize (lg_sl ([.ref (a 0), .int (cu), .int (sm)]) ++ List.replicate (4 - (lg_sl ([.ref (a 0), .int (cu), .int (sm)])).length) Slot.unset).toArray = ls at hl ⊢
  have hl : lv_has ls 4 [(0, .ref (a 0)), (1, .int (cu)), (2, .int (sm))] := hl
  generalize hHe : s.heap = H at hP
  have hS : va_S A s.heap H [] := by rw [← hHe]; exact va_S.rf
  clear hHe
  generalize hLe : ([] : List Loc) = locs at hS ⊢
  clear hLe
  refine lv_aload_n hx hb dX3_chooseExactSet_0 rfl (lv_at hl 0 rfl) ?_
  refine va_get (D := D) (ci := 3) (v := .ref (a 22)) (C := RX3) (T := TX3) (N := 4) hx hb hts (fun w h => List.mem_cons_of_mem _ (List.mem_append_left _ (List.mem_append_left _ (List.mem_append_right _ h)))) hown hK hP 0 rfl rfl 2 (by decide) (hts (.fieldLink RX3 26 "CashAllocator" "exactSet" "LCashAllocator$ExactSet;") (by decide +kernel)) (fun _ h9 => h9) rfl dX3_chooseExactSet_1 ?_
  refine zcVv (ci := 1) (q0 := 0) (wf := (fun (u : Nat → Nat → Int32) => (wCA a cI cZ B R u (td)))) ksES ⟨hx, hb, hml, hown, hts⟩ (zwES hP hD hS hA) hK (c_X1_clear l D cI cZ a H.size (E) ) (cwV 0 hts gX3_chooseExactSet_X1_clear rfl rfl rfl (by decide +kernel) ⟨Nat.le_of_ble_eq_true rfl, Nat.le_of_ble_eq_true rfl⟩) rfl rfl (by decide) (fun _ => zkES _) rfl hl.1 rfl (Nat.le_of_ble_eq_true rfl) dX3_chooseExactSet_4 ⟨Nat.le_of_ble_eq_true rfl, Nat.le_of_ble_eq_true rfl⟩ (fun u H locs hw hP hD hS => ?_)
  subst hw
  have hP : va_P D vwCl (wCA a cI cZ B R (clrE (E)) (td)) H := hP
  have hD : va_D A (wCA a cI cZ B R (clrE (E)) (td)) := hD
  refine lv_iconst (v := nI (0)) hx hb dX3_chooseExactSet_7 (by decide) ?_
  refine lv_istore_n (lv' := [(3, .int (nI (0))), (0, .ref (a 0)), (1, .int (cu)), (2, .int (sm))]) hx hb dX3_chooseExactSet_8 rfl hl (by decide) rfl (fun ls hl => ?_)
  have loop9 : ∀ (fu : Nat) (i : Nat) (mm : Nat) (Ei : Nat → Nat → Int32) (hin : i ≤ n) (hm : mm ≤ i) (hEi : Ei 3 0 = nI mm) (hg : ofL B cu td n 0 0 (clrE E) = ofL B cu td (n - i) i mm Ei) (hfu : n - i < fu) (H : Heap) (locs : List Loc) (hP : va_P D vwCl (wCA a cI cZ B R Ei (td)) H) (hD : va_D A (wCA a cI cZ B R Ei (td))) (hS : va_S A s.heap H locs) (ls : Array Slot) (hl : lv_has ls 4 [(3, .int (nI (i))), (0, .ref (a 0)), (1, .int (cu)), (2, .int (sm))]), W p l e (headSpec wsX3_chooseExactSet ({ frames := 3, cells := 0, slots := 0, locals := 68 } : Room)).room s m ([.ref (a 0), .int (cu), .int (sm)] : List Value).toArray below meth c H locs 0 0 (MQ below (va_Qv (fun (u : Nat → Nat → Int32) => u = cesE B E cu sm td n) (fun (u : Nat → Nat → Int32) => PostW D cI cZ A (wCA a cI cZ B R u (td))) A) ([.ref (a 0), .int (cu), .int (sm)] : List Value).toArray s 0 0 A) (F0 m 9 ls []) := by
    clear hP hD hS hl
    intro fu9
    induction fu9 with
    | zero => intro i mm Ei hin hm hEi hg hfu; exact absurd hfu (Nat.not_lt_zero _)
    | succ fu9 ih9 =>
      intro i mm Ei hin hm hEi hg hfu H locs hP hD hS ls hl
      refine lv_iload_n hx hb dX3_chooseExactSet_9 rfl (lv_at hl 0 rfl) ?_
      refine lv_aload_n hx hb dX3_chooseExactSet_10 rfl (lv_at hl 1 rfl) ?_
      refine va_get (D := D) (ci := 3) (v := .ref (a 1)) (C := RX3) (T := TX3) (N := 4) hx hb hts (fun w h => List.mem_cons_of_mem _ (List.mem_append_left _ (List.mem_append_left _ (List.mem_append_right _ h)))) hown hK hP 0 rfl rfl 0 (by decide) (hts (.fieldLink RX3 10 "CashAllocator" "billBook" "LCashAllocator$BillBook;") (by decide +kernel)) (fun _ h9 => h9) rfl dX3_chooseExactSet_11 ?_
      refine va_get (D := D) (ci := 0) (v := .int (nI (n))) (C := RX0) (T := TX0) (N := 12) hx hb hts (fun w h => List.mem_cons_of_mem _ (List.mem_append_left _ (List.mem_append_right _ h))) hown hK hP 1 rfl rfl 11 (by decide) (hts (.fieldLink RX3 43 "CashAllocator$BillBook" "count" "I") (by decide +kernel)) (fun _ h9 => h9) (congrArg (fun z => some (Value.int z)) hB) dX3_chooseExactSet_14 ?_
      refine lv_icmp_ge (tgt := 58) hx hb dX3_chooseExactSet_17 (by decide) (fun c17 => ?_) (fun c17 => ?_)
      · -- 17 taken
        rw [nI_leI (by omega) (by omega)] at c17
        refine lv_aload_n hx hb dX3_chooseExactSet_58 rfl (lv_at hl 1 rfl) ?_
        refine va_get (D := D) (ci := 3) (v := .ref (a 22)) (C := RX3) (T := TX3) (N := 4) hx hb hts (fun w h => List.mem_cons_of_mem _ (List.mem_append_left _ (List.mem_append_left _ (List.mem_append_right _ h)))) hown hK hP 0 rfl rfl 2 (by decide) (hts (.fieldLink RX3 26 "CashAllocator" "exactSet" "LCashAllocator$ExactSet;") (by decide +kernel)) (fun _ h9 => h9) rfl dX3_chooseExactSet_59 ?_
        refine lv_iload_n hx hb dX3_chooseExactSet_62 rfl (lv_at hl 3 rfl) ?_
        refine zcVv (ci := 1) (q0 := 0) (wf := (fun (u : Nat → Nat → Int32) => (wCA a cI cZ B R u (td)))) ksES ⟨hx, hb, hml, hown, hts⟩ (zwES hP hD hS hA) hK (c_X1_choose l D cI cZ a H.size (Ei) (sm) (mm) hEi (by first | assumption | omega)) (cwV 1 hts gX3_chooseExactSet_X1_choose rfl rfl rfl (by decide +kernel) ⟨Nat.le_of_ble_eq_true rfl, Nat.le_of_ble_eq_true rfl⟩) rfl rfl (by decide) (fun _ => zkES _) rfl hl.1 rfl (Nat.le_of_ble_eq_true rfl) dX3_chooseExactSet_63 ⟨Nat.le_of_ble_eq_true rfl, Nat.le_of_ble_eq_true rfl⟩ (fun u H locs hw hP hD hS => ?_)
        subst hw
        have hP : va_P D vwCl (wCA a cI cZ B R (chE (Ei) (sm) (mm)) (td)) H := hP
        have hD : va_D A (wCA a cI cZ B R (chE (Ei) (sm) (mm)) (td)) := hD
        have hfin : chE Ei sm mm = cesE B E cu sm td n := by unfold cesE; rw [hg, show n - i = 0 by omega]; rfl
        exact W.vret hx hb hr (fun t ht hW => ⟨⟨(chE (Ei) (sm) (mm)), rfl, hfin, by rw [ht]; exact hP, va_K.moved hW.alike hK, hD⟩, hS.F ht⟩) hS.2.2 dX3_chooseExactSet_66
      · -- 17 on
        rw [nI_leI (by omega) (by omega)] at c17
        have c17 : i < n := by omega
        have hk : n - i = (n - (i + 1)) + 1 := by omega
        rw [hk] at hg
        refine lv_aload_n hx hb dX3_chooseExactSet_20 rfl (lv_at hl 1 rfl) ?_
        refine va_get (D := D) (ci := 3) (v := .ref (a 1)) (C := RX3) (T := TX3) (N := 4) hx hb hts (fun w h => List.mem_cons_of_mem _ (List.mem_append_left _ (List.mem_append_left _ (List.mem_append_right _ h)))) hown hK hP 0 rfl rfl 0 (by decide) (hts (.fieldLink RX3 10 "CashAllocator" "billBook" "LCashAllocator$BillBook;") (by decide +kernel)) (fun _ h9 => h9) rfl dX3_chooseExactSet_21 ?_
        refine lv_iload_n hx hb dX3_chooseExactSet_24 rfl (lv_at hl 0 rfl) ?_
        refine lv_iload_n hx hb dX3_chooseExactSet_25 rfl (lv_at hl 2 rfl) ?_
        refine zcVi (ci := 0) (q0 := 0) (wf := (fun (u : Unit) => (wCA a cI cZ B R Ei (td)))) ksBB ⟨hx, hb, hml, hown, hts⟩ (zwBB hP hD hS hA) hK (c_X0_isOpenFor l D cI cZ a H.size (B) (i) (cu) (by first | assumption | omega)) (cwV 2 hts gX3_chooseExactSet_X0_isOpenFor rfl rfl rfl (by decide +kernel) ⟨Nat.le_of_ble_eq_true rfl, Nat.le_of_ble_eq_true rfl⟩) rfl rfl (by decide) (fun _ => zkBB _) rfl hl.1 rfl (Nat.le_of_ble_eq_true rfl) dX3_chooseExactSet_26 ⟨Nat.le_of_ble_eq_true rfl, Nat.le_of_ble_eq_true rfl⟩ (fun r26 u H locs hw hP hD hS => ?_)
        subst hw
        refine lv_if_eq (tgt := 52) hx hb dX3_chooseExactSet_29 (by decide) (fun c29 => ?_) (fun c29 => ?_)
        · -- 29 taken
          have c29 := b2_0 c29
          refine lv_iinc (v := nI (i + 1)) (lv' := [(3, .int (nI (i + 1))), (0, .ref (a 0)), (1, .int (cu)), (2, .int (sm))]) hx hb dX3_chooseExactSet_52 hl (k := 0) rfl (nI_1 _) (by decide) rfl (fun ls hl => ?_)
          refine lv_goto (tgt := 9) hx hb dX3_chooseExactSet_55 (by decide) ?_
          exact ih9 (i + 1) mm Ei (by omega) (by omega) hEi (by rw [hg, ofL, if_neg c29]) (by omega) _ _ hP hD hS _ (lv_sub hl [0, 1, 2, 3] rfl)
        · -- 29 on
          have c29 := b2_1 c29
          refine lv_aload_n hx hb dX3_chooseExactSet_32 rfl (lv_at hl 1 rfl) ?_
          refine va_get (D := D) (ci := 3) (v := .ref (a 22)) (C := RX3) (T := TX3) (N := 4) hx hb hts (fun w h => List.mem_cons_of_mem _ (List.mem_append_left _ (List.mem_append_left _ (List.mem_append_right _ h)))) hown hK hP 0 rfl rfl 2 (by decide) (hts (.fieldLink RX3 26 "CashAllocator" "exactSet" "LCashAllocator$ExactSet;") (by decide +kernel)) (fun _ h9 => h9) rfl dX3_chooseExactSet_33 ?_
          refine lv_iload_n hx hb dX3_chooseExactSet_36 rfl (lv_at hl 0 rfl) ?_
          refine lv_aload_n hx hb dX3_chooseExactSet_37 rfl (lv_at hl 1 rfl) ?_
          refine va_get (D := D) (ci := 3) (v := .ref (a 1)) (C := RX3) (T := TX3) (N := 4) hx hb hts (fun w h => List.mem_cons_of_mem _ (List.mem_append_left _ (List.mem_append_left _ (List.mem_append_right _ h)))) hown hK hP 0 rfl rfl 0 (by decide) (hts (.fieldLink RX3 10 "CashAllocator" "billBook" "LCashAllocator$BillBook;") (by decide +kernel)) (fun _ h9 => h9) rfl dX3_chooseExactSet_38 ?_
          refine lv_iload_n hx hb dX3_chooseExactSet_41 rfl (lv_at hl 0 rfl) ?_
          refine lv_aload_n hx hb dX3_chooseExactSet_42 rfl (lv_at hl 1 rfl) ?_
          refine va_get (D := D) (ci := 3) (v := .int (td)) (C := RX3) (T := TX3) (N := 4) hx hb hts (fun w h => List.mem_cons_of_mem _ (List.mem_append_left _ (List.mem_append_left _ (List.mem_append_right _ h)))) hown hK hP 0 rfl rfl 3 (by decide) (hts (.fieldLink RX3 30 "CashAllocator" "today" "I") (by decide +kernel)) (fun _ h9 => h9) rfl dX3_chooseExactSet_43 ?_
          refine zcVi (ci := 0) (q0 := 0) (wf := (fun (u : Unit) => (wCA a cI cZ B R Ei (td)))) ksBB ⟨hx, hb, hml, hown, hts⟩ (zwBB hP hD hS hA) hK (c_X0_dueOn l D cI cZ a H.size (B) (i) (td) (by first | assumption | omega)) (cwV 2 hts gX3_chooseExactSet_X0_dueOn rfl rfl rfl (by decide +kernel) ⟨Nat.le_of_ble_eq_true rfl, Nat.le_of_ble_eq_true rfl⟩) rfl rfl (by decide) (fun _ => zkBB _) rfl hl.1 rfl (Nat.le_of_ble_eq_true rfl) dX3_chooseExactSet_46 ⟨Nat.le_of_ble_eq_true rfl, Nat.le_of_ble_eq_true rfl⟩ (fun r46 u H locs hw hP hD hS => ?_)
          subst hw
          refine zcVv (ci := 1) (q0 := 0) (wf := (fun (u : Nat → Nat → Int32) => (wCA a cI cZ B R u (td)))) ksES ⟨hx, hb, hml, hown, hts⟩ (zwES hP hD hS hA) hK (c_X1_offer l D cI cZ a H.size (Ei) (mm) (nI (i)) (dueN (B) (i) (td)) hEi (by first | assumption | omega)) (cwV 2 hts gX3_chooseExactSet_X1_offer rfl rfl rfl (by decide +kernel) ⟨Nat.le_of_ble_eq_true rfl, Nat.le_of_ble_eq_true rfl⟩) rfl rfl (by decide) (fun _ => zkES _) rfl hl.1 rfl (Nat.le_of_ble_eq_true rfl) dX3_chooseExactSet_49 ⟨Nat.le_of_ble_eq_true rfl, Nat.le_of_ble_eq_true rfl⟩ (fun u H locs hw hP hD hS => ?_)
          subst hw
          have hP : va_P D vwCl (wCA a cI cZ B R (offE (Ei) (mm) (nI (i)) (dueN (B) (i) (td))) (td)) H := hP
          have hD : va_D A (wCA a cI cZ B R (offE (Ei) (mm) (nI (i)) (dueN (B) (i) (td))) (td)) := hD
          refine lv_iinc (v := nI (i + 1)) (lv' := [(3, .int (nI (i + 1))), (0, .ref (a 0)), (1, .int (cu)), (2, .int (sm))]) hx hb dX3_chooseExactSet_52 hl (k := 0) rfl (nI_1 _) (by decide) rfl (fun ls hl => ?_)
          refine lv_goto (tgt := 9) hx hb dX3_chooseExactSet_55 (by decide) ?_
          exact ih9 (i + 1) (mm + 1) (offE Ei mm (nI i) (dueN B i td)) (by omega) (by omega) rfl (by rw [hg, ofL, if_pos c29]) (by omega) _ _ hP hD hS _ (lv_sub hl [0, 1, 2, 3] rfl)
  exact loop9 _ (0) (0) ((clrE E)) (Nat.zero_le _) (Nat.le_refl _) (rfl) (rfl) (Nat.lt_succ_self _) _ _ hP hD hS _ (lv_sub hl [0, 1, 2, 3] rfl)
set_option maxHeartbeats 4000000 in
set_option maxRecDepth 100000 in
theorem c_X3_payExactSet (l : Launch) (D : va_G) (cI cZ : ClassId) (a : Nat → Nat) (sz : Nat) (B : Nat → Nat → Int32) (R : Nat → Nat → Int32) (E : Nat → Nat → Int32) (td : Int32) (rc : Nat) (n : Nat) (hrc : rc < 30) (hB : B 11 0 = nI n) (hn : n ≤ 40) : Met l yX3_payExactSet wsX3_payExactSet ({ frames := 4, cells := 0, slots := 0, locals := 92 } : Room) (va_Pc [.ref (a 0), .int (nI (rc))] (PreW D cI cZ (wCA a cI cZ B R E (td)) sz)) (va_Qv (fun (u : (Nat → Nat → Int32) × (Nat → Nat → Int32) × (Nat → Nat → Int32)) => u = ((exP (cesE B E (R 0 rc) (R 3 rc) td n) rc td n 3 0 B R).1, (exP (cesE B E (R 0 rc) (R 3 rc) td n) rc td n 3 0 B R).2, cesE B E (R 0 rc) (R 3 rc) td n)) (fun (u : (Nat → Nat → Int32) × (Nat → Nat → Int32) × (Nat → Nat → Int32)) => PostW D cI cZ (va_A (wCA a cI cZ B R E (td)) sz) (wCA a cI cZ (u.1) (u.2.1) (u.2.2) (td))) (va_A (wCA a cI cZ B R E (td)) sz)) 0 0 (va_A (wCA a cI cZ B R E (td)) sz) := by
  refine Met.ofW (cc := cX3_payExactSet) (maxL := 4) (ret := none) (by decide) rfl ?_
  intro p e s m args below meth c s₁ BB hml hv
  obtain ⟨rfl, hsz, hP, hK, hD0⟩ := hv
  have hx := BB.exec
  have hb := BB.bytes
  have hr := BB.returns
  have hts := atoms_spec (ws := wsX3_payExactSet) BB.pre
  have hown : s.vm.findClass RX3 = some m.cls := findClass_of_methodNamed BB.named
  have hlocks := BB.notSynchronized
  clear BB
  subst hsz
  have hD := hD0.self (sz := s.heap.size)
  clear hD0
  generalize hAe : va_A (wCA a cI cZ B R E (td)) s.heap.size = A at hD ⊢
  have hA : ∀ q : Nat, s.heap.size ≤ q → A q := fun q h => by rw [← hAe]; exact Or.inr h
  clear hAe
  have hS : va_S A s.heap s.heap [] := va_S.rf
  have hl := lv_entry ([.ref (a 0), .int (nI (rc))]) (n := 4) (Nat.le_of_ble_eq_true rfl)
  rw [lg_entry_eq]
  generalize (lg_sl ([.ref (a 0), .int (nI (rc))]) ++ List.replicate (4 - (lg_sl ([.ref (a 0), .int (nI (rc))])).length) Slot.unset).toArray = ls at hl ⊢
  have hl : lv_has ls 4 [(0, .ref (a 0)), (1, .int (nI (rc)))] := hl
  generalize hHe : s.heap = H at hP
  have hS : va_S A s.heap H [] := by rw [← hHe]; exact va_S.rf
  clear hHe
  generalize hLe : ([] : List Loc) = locs at hS ⊢
  clear hLe
  refine lv_aload_n hx hb dX3_payExactSet_0 rfl (lv_at hl 0 rfl) ?_
  refine lv_aload_n hx hb dX3_payExactSet_1 rfl (lv_at hl 0 rfl) ?_
  refine va_get (D := D) (ci := 3) (v := .ref (a 13)) (C := RX3) (T := TX3) (N := 4) hx hb hts (fun w h => List.mem_cons_of_mem _ (List.mem_append_left _ (List.mem_append_left _ (List.mem_append_left _ (List.mem_append_right _ h))))) hown hK hP 0 rfl rfl 1 (by decide) (hts (.fieldLink RX3 19 "CashAllocator" "receiptBook" "LCashAllocator$ReceiptBook;") (by decide +kernel)) (fun _ h9 => h9) rfl dX3_payExactSet_2 ?_
  refine va_get (D := D) (ci := 2) (v := .ref (a 14)) (C := RX2) (T := TX2) (N := 9) hx hb hts (fun w h => List.mem_cons_of_mem _ (List.mem_append_left _ (List.mem_append_left _ (List.mem_append_right _ h)))) hown hK hP 13 rfl rfl 0 (by decide) (hts (.fieldLink RX3 79 "CashAllocator$ReceiptBook" "customer" "[I") (by decide +kernel)) (fun _ h9 => h9) rfl dX3_payExactSet_5 ?_
  refine lv_iload_n hx hb dX3_payExactSet_8 rfl (lv_at hl 1 rfl) ?_
  refine zald hx hb hK hP 14 (n := 30) (f := (R 0)) rfl (rc) rfl (by omega) (by decide) dX3_payExactSet_9 ?_
  refine lv_aload_n hx hb dX3_payExactSet_10 rfl (lv_at hl 0 rfl) ?_
  refine va_get (D := D) (ci := 3) (v := .ref (a 13)) (C := RX3) (T := TX3) (N := 4) hx hb hts (fun w h => List.mem_cons_of_mem _ (List.mem_append_left _ (List.mem_append_left _ (List.mem_append_left _ (List.mem_append_right _ h))))) hown hK hP 0 rfl rfl 1 (by decide) (hts (.fieldLink RX3 19 "CashAllocator" "receiptBook" "LCashAllocator$ReceiptBook;") (by decide +kernel)) (fun _ h9 => h9) rfl dX3_payExactSet_11 ?_
  refine va_get (D := D) (ci := 2) (v := .ref (a 17)) (C := RX2) (T := TX2) (N := 9) hx hb hts (fun w h => List.mem_cons_of_mem _ (List.mem_append_left _ (List.mem_append_left _ (List.mem_append_right _ h)))) hown hK hP 13 rfl rfl 3 (by decide) (hts (.fieldLink RX3 85 "CashAllocator$ReceiptBook" "unapplied" "[I") (by decide +kernel)) (fun _ h9 => h9) rfl dX3_payExactSet_14 ?_
  refine lv_iload_n hx hb dX3_payExactSet_17 rfl (lv_at hl 1 rfl) ?_
  refine zald hx hb hK hP 17 (n := 30) (f := (R 3)) rfl (rc) rfl (by omega) (by decide) dX3_payExactSet_18 ?_
  refine zcVv (ci := 3) (q0 := 0) (wf := (fun (u : Nat → Nat → Int32) => (wCA a cI cZ B R u (td)))) (List.range 26) ⟨hx, hb, hml, hown, hts⟩ (zwAll 26 (by decide) rfl hP hD hS hA) hK (c_X3_chooseExactSet l D cI cZ a H.size (B) (R) (E) (td) (n) (R 0 (rc)) (R 3 (rc)) (by first | assumption | omega) (by first | assumption | omega)) (cwV 2 hts gX3_payExactSet_X3_chooseExactSet rfl rfl rfl (by decide +kernel) ⟨Nat.le_of_ble_eq_true rfl, Nat.le_of_ble_eq_true rfl⟩) rfl rfl (by decide) (fun _ => rfl) rfl hl.1 rfl (Nat.le_of_ble_eq_true rfl) dX3_payExactSet_19 ⟨Nat.le_of_ble_eq_true rfl, Nat.le_of_ble_eq_true rfl⟩ (fun u H locs hw hP hD hS => ?_)
  subst hw
  have hP : va_P D vwCl (wCA a cI cZ B R (cesE (B) (E) (R 0 (rc)) (R 3 (rc)) (td) n) (td)) H := hP
  have hD : va_D A (wCA a cI cZ B R (cesE (B) (E) (R 0 (rc)) (R 3 (rc)) (td) n) (td)) := hD
  refine lv_iconst (v := nI (0)) hx hb dX3_payExactSet_22 (by decide) ?_
  refine lv_istore_n (lv' := [(2, .int (nI (0))), (0, .ref (a 0)), (1, .int (nI (rc)))]) hx hb dX3_payExactSet_23 rfl hl (by decide) rfl (fun ls hl => ?_)
  have loop24 : ∀ (fu : Nat) (i : Nat) (Bi : Nat → Nat → Int32) (Ri : Nat → Nat → Int32) (Ei : Nat → Nat → Int32) (hin : i ≤ 3) (hEi : Ei = cesE B E (R 0 rc) (R 3 rc) td n) (hBi : Bi 11 0 = nI n) (hg : exP (cesE B E (R 0 rc) (R 3 rc) td n) rc td n 3 0 B R = exP Ei rc td n (3 - i) i Bi Ri) (hfu : 3 - i < fu) (H : Heap) (locs : List Loc) (hP : va_P D vwCl (wCA a cI cZ Bi Ri Ei (td)) H) (hD : va_D A (wCA a cI cZ Bi Ri Ei (td))) (hS : va_S A s.heap H locs) (ls : Array Slot) (hl : lv_has ls 4 [(2, .int (nI (i))), (0, .ref (a 0)), (1, .int (nI (rc)))]), W p l e (headSpec wsX3_payExactSet ({ frames := 4, cells := 0, slots := 0, locals := 92 } : Room)).room s m ([.ref (a 0), .int (nI (rc))] : List Value).toArray below meth c H locs 0 0 (MQ below (va_Qv (fun (u : (Nat → Nat → Int32) × (Nat → Nat → Int32) × (Nat → Nat → Int32)) => u = ((exP (cesE B E (R 0 rc) (R 3 rc) td n) rc td n 3 0 B R).1, (exP (cesE B E (R 0 rc) (R 3 rc) td n) rc td n 3 0 B R).2, cesE B E (R 0 rc) (R 3 rc) td n)) (fun (u : (Nat → Nat → Int32) × (Nat → Nat → Int32) × (Nat → Nat → Int32)) => PostW D cI cZ A (wCA a cI cZ (u.1) (u.2.1) (u.2.2) (td))) A) ([.ref (a 0), .int (nI (rc))] : List Value).toArray s 0 0 A) (F0 m 24 ls []) := by
    clear hP hD hS hl
    intro fu24
    induction fu24 with
    | zero => intro i Bi Ri Ei hin hEi hBi hg hfu; exact absurd hfu (Nat.not_lt_zero _)
    | succ fu24 ih24 =>
      intro i Bi Ri Ei hin hEi hBi hg hfu H locs hP hD hS ls hl
      refine lv_iload_n hx hb dX3_payExactSet_24 rfl (lv_at hl 0 rfl) ?_
      refine lv_iconst (v := nI (3)) hx hb dX3_payExactSet_25 (by decide) ?_
      refine lv_icmp_ge (tgt := 67) hx hb dX3_payExactSet_26 (by decide) (fun c26 => ?_) (fun c26 => ?_)
      · -- 26 taken
        rw [nI_leI (by omega) (by omega)] at c26
        have hfin : (Bi, Ri, Ei) = ((exP (cesE B E (R 0 rc) (R 3 rc) td n) rc td n 3 0 B R).1, (exP (cesE B E (R 0 rc) (R 3 rc) td n) rc td n 3 0 B R).2, cesE B E (R 0 rc) (R 3 rc) td n) := by rw [hg, show 3 - i = 0 by omega, ← hEi]; rfl
        exact W.vret hx hb hr (fun t ht hW => ⟨⟨(Bi, Ri, Ei), rfl, hfin, by rw [ht]; exact hP, va_K.moved hW.alike hK, hD⟩, hS.F ht⟩) hS.2.2 dX3_payExactSet_67
      · -- 26 on
        rw [nI_leI (by omega) (by omega)] at c26
        have c26 : i < 3 := by omega
        have hk : 3 - i = (3 - (i + 1)) + 1 := by omega
        rw [hk] at hg
        refine lv_aload_n hx hb dX3_payExactSet_29 rfl (lv_at hl 1 rfl) ?_
        refine va_get (D := D) (ci := 3) (v := .ref (a 22)) (C := RX3) (T := TX3) (N := 4) hx hb hts (fun w h => List.mem_cons_of_mem _ (List.mem_append_left _ (List.mem_append_left _ (List.mem_append_left _ (List.mem_append_right _ h))))) hown hK hP 0 rfl rfl 2 (by decide) (hts (.fieldLink RX3 26 "CashAllocator" "exactSet" "LCashAllocator$ExactSet;") (by decide +kernel)) (fun _ h9 => h9) rfl dX3_payExactSet_30 ?_
        refine va_get (D := D) (ci := 1) (v := .ref (a 25)) (C := RX1) (T := TX1) (N := 4) hx hb hts (fun w h => List.mem_cons_of_mem _ (List.mem_append_left _ (List.mem_append_right _ h))) hown hK hP 22 rfl rfl 2 (by decide) (hts (.fieldLink RX3 158 "CashAllocator$ExactSet" "chosen" "[I") (by decide +kernel)) (fun _ h9 => h9) rfl dX3_payExactSet_33 ?_
        refine lv_iload_n hx hb dX3_payExactSet_36 rfl (lv_at hl 0 rfl) ?_
        refine zald hx hb hK hP 25 (n := 3) (f := (Ei 2)) rfl (i) rfl (by omega) (by decide) dX3_payExactSet_37 ?_
        refine lv_istore_n (lv' := [(3, .int (Ei 2 (i))), (2, .int (nI (i))), (0, .ref (a 0)), (1, .int (nI (rc)))]) hx hb dX3_payExactSet_38 rfl hl (by decide) rfl (fun ls hl => ?_)
        refine lv_iload_n hx hb dX3_payExactSet_39 rfl (lv_at hl 0 rfl) ?_
        refine lv_if_lt (tgt := 61) hx hb dX3_payExactSet_40 (by decide) (fun c40 => ?_) (fun c40 => ?_)
        · -- 40 taken
          have hg2 : exP (cesE B E (R 0 rc) (R 3 rc) td n) rc td n 3 0 B R = exP Ei rc td n (3 - (i + 1)) (i + 1) Bi Ri := by rw [hg, exP, if_neg (fun z => z.1 c40)]
          refine lv_iinc (v := nI (i + 1)) (lv' := [(2, .int (nI (i + 1))), (3, .int (Ei 2 (i))), (0, .ref (a 0)), (1, .int (nI (rc)))]) hx hb dX3_payExactSet_61 hl (k := 1) rfl (nI_1 _) (by decide) rfl (fun ls hl => ?_)
          refine lv_goto (tgt := 24) hx hb dX3_payExactSet_64 (by decide) ?_
          exact ih24 (i + 1) (Bi) (Ri) Ei (by omega) hEi hBi hg2 (by omega) _ _ hP hD hS _ (lv_sub hl [0, 2, 3] rfl)
        · -- 40 on
          refine lv_iload_n hx hb dX3_payExactSet_43 rfl (lv_at hl 0 rfl) ?_
          refine lv_aload_n hx hb dX3_payExactSet_44 rfl (lv_at hl 2 rfl) ?_
          refine va_get (D := D) (ci := 3) (v := .ref (a 1)) (C := RX3) (T := TX3) (N := 4) hx hb hts (fun w h => List.mem_cons_of_mem _ (List.mem_append_left _ (List.mem_append_left _ (List.mem_append_left _ (List.mem_append_right _ h))))) hown hK hP 0 rfl rfl 0 (by decide) (hts (.fieldLink RX3 10 "CashAllocator" "billBook" "LCashAllocator$BillBook;") (by decide +kernel)) (fun _ h9 => h9) rfl dX3_payExactSet_45 ?_
          refine va_get (D := D) (ci := 0) (v := .int (nI (n))) (C := RX0) (T := TX0) (N := 12) hx hb hts (fun w h => List.mem_cons_of_mem _ (List.mem_append_right _ h)) hown hK hP 1 rfl rfl 11 (by decide) (hts (.fieldLink RX3 43 "CashAllocator$BillBook" "count" "I") (by decide +kernel)) (fun _ h9 => h9) (congrArg (fun z => some (Value.int z)) hBi) dX3_payExactSet_48 ?_
          refine lv_icmp_ge (tgt := 61) hx hb dX3_payExactSet_51 (by decide) (fun c51 => ?_) (fun c51 => ?_)
          · -- 51 taken
            have hg2 : exP (cesE B E (R 0 rc) (R 3 rc) td n) rc td n 3 0 B R = exP Ei rc td n (3 - (i + 1)) (i + 1) Bi Ri := by rw [hg, exP, if_neg (fun z => absurd z.2 (not_lt_of_ge32 c51))]
            refine lv_iinc (v := nI (i + 1)) (lv' := [(2, .int (nI (i + 1))), (3, .int (Ei 2 (i))), (0, .ref (a 0)), (1, .int (nI (rc)))]) hx hb dX3_payExactSet_61 hl (k := 1) rfl (nI_1 _) (by decide) rfl (fun ls hl => ?_)
            refine lv_goto (tgt := 24) hx hb dX3_payExactSet_64 (by decide) ?_
            exact ih24 (i + 1) (Bi) (Ri) Ei (by omega) hEi hBi hg2 (by omega) _ _ hP hD hS _ (lv_sub hl [0, 2, 3] rfl)
          · -- 51 on
            obtain ⟨j, hj, ej⟩ := ix_of (n := n) (by omega) c40 (lt_of_nge32 c51)
            rw [ej] at hl
            have hl : lv_has ls 4 [(3, .int (nI (j))), (2, .int (nI (i))), (0, .ref (a 0)), (1, .int (nI (rc)))] := hl
            have hg2 : exP (cesE B E (R 0 rc) (R 3 rc) td n) rc td n 3 0 B R = exP Ei rc td n (3 - (i + 1)) (i + 1) (payB Bi Ri rc j td) (payR Bi Ri rc j td) := by rw [hg, exP, if_pos ⟨c40, lt_of_nge32 c51⟩, ej, nI_clamp (by omega)]
            refine lv_aload_n hx hb dX3_payExactSet_54 rfl (lv_at hl 2 rfl) ?_
            refine lv_iload_n hx hb dX3_payExactSet_55 rfl (lv_at hl 3 rfl) ?_
            refine lv_iload_n hx hb dX3_payExactSet_56 rfl (lv_at hl 0 rfl) ?_
            refine zcVi (ci := 3) (q0 := 0) (wf := (fun (u : (Nat → Nat → Int32) × (Nat → Nat → Int32)) => (wCA a cI cZ (u.1) (u.2) Ei (td)))) (List.range 26) ⟨hx, hb, hml, hown, hts⟩ (zwAll 26 (by decide) rfl hP hD hS hA) hK (c_X3_payBill l D cI cZ a H.size (Bi) (Ri) (Ei) (td) (rc) (j) (by first | assumption | omega) (by first | assumption | omega)) (cwV 2 hts gX3_payExactSet_X3_payBill rfl rfl rfl (by decide +kernel) ⟨Nat.le_of_ble_eq_true rfl, Nat.le_of_ble_eq_true rfl⟩) rfl rfl (by decide) (fun _ => rfl) rfl hl.1 rfl (Nat.le_of_ble_eq_true rfl) dX3_payExactSet_57 ⟨Nat.le_of_ble_eq_true rfl, Nat.le_of_ble_eq_true rfl⟩ (fun r57 u H locs hw hP hD hS => ?_)
            obtain ⟨rfl, rfl⟩ := hw
            have hP : va_P D vwCl (wCA a cI cZ (payB (Bi) (Ri) (rc) (j) (td)) (payR (Bi) (Ri) (rc) (j) (td)) Ei (td)) H := hP
            have hD : va_D A (wCA a cI cZ (payB (Bi) (Ri) (rc) (j) (td)) (payR (Bi) (Ri) (rc) (j) (td)) Ei (td)) := hD
            refine lv_pop hx hb dX3_payExactSet_60 rfl ?_
            refine lv_iinc (v := nI (i + 1)) (lv' := [(2, .int (nI (i + 1))), (3, .int (nI (j))), (0, .ref (a 0)), (1, .int (nI (rc)))]) hx hb dX3_payExactSet_61 hl (k := 1) rfl (nI_1 _) (by decide) rfl (fun ls hl => ?_)
            refine lv_goto (tgt := 24) hx hb dX3_payExactSet_64 (by decide) ?_
            exact ih24 (i + 1) ((payB (Bi) (Ri) (rc) (j) (td))) ((payR (Bi) (Ri) (rc) (j) (td))) Ei (by omega) hEi (by rw [payB_n]; exact hBi) hg2 (by omega) _ _ hP hD hS _ (lv_sub hl [0, 2, 3] rfl)
  exact loop24 _ (0) (B) (R) ((cesE B E (R 0 rc) (R 3 rc) td n)) (Nat.zero_le _) (rfl) (hB) (rfl) (Nat.lt_succ_self _) _ _ hP hD hS _ (lv_sub hl [0, 1, 2] rfl)
set_option maxHeartbeats 4000000 in
set_option maxRecDepth 100000 in
theorem c_X3_payOtherBills (l : Launch) (D : va_G) (cI cZ : ClassId) (a : Nat → Nat) (sz : Nat) (B : Nat → Nat → Int32) (R : Nat → Nat → Int32) (E : Nat → Nat → Int32) (td : Int32) (rc : Nat) (n : Nat) (hrc : rc < 30) (hB : B 11 0 = nI n) (hn : n ≤ 40) : Met l yX3_payOtherBills wsX3_payOtherBills ({ frames := 5, cells := 0, slots := 0, locals := 115 } : Room) (va_Pc [.ref (a 0), .int (nI (rc))] (PreW D cI cZ (wCA a cI cZ B R E (td)) sz)) (va_Qv (fun (u : (Nat → Nat → Int32) × (Nat → Nat → Int32) × (Nat → Nat → Int32)) => u = othS B R E rc n td) (fun (u : (Nat → Nat → Int32) × (Nat → Nat → Int32) × (Nat → Nat → Int32)) => PostW D cI cZ (va_A (wCA a cI cZ B R E (td)) sz) (wCA a cI cZ (u.1) (u.2.1) (u.2.2) (td))) (va_A (wCA a cI cZ B R E (td)) sz)) 0 0 (va_A (wCA a cI cZ B R E (td)) sz) := by
  refine Met.ofW (cc := cX3_payOtherBills) (maxL := 2) (ret := none) (by decide) rfl ?_
  intro p e s m args below meth c s₁ BB hml hv
  obtain ⟨rfl, hsz, hP, hK, hD0⟩ := hv
  have hx := BB.exec
  have hb := BB.bytes
  have hr := BB.returns
  have hts := atoms_spec (ws := wsX3_payOtherBills) BB.pre
  have hown : s.vm.findClass RX3 = some m.cls := findClass_of_methodNamed BB.named
  have hlocks := BB.notSynchronized
  clear BB
  subst hsz
  have hD := hD0.self (sz := s.heap.size)
  clear hD0
  generalize hAe : va_A (wCA a cI cZ B R E (td)) s.heap.size = A at hD ⊢
  have hA : ∀ q : Nat, s.heap.size ≤ q → A q := fun q h => by rw [← hAe]; exact Or.inr h
  clear hAe
  have hS : va_S A s.heap s.heap [] := va_S.rf
  have hl := lv_entry ([.ref (a 0), .int (nI (rc))]) (n := 2) (Nat.le_of_ble_eq_true rfl)
  rw [lg_entry_eq]
  generalize (lg_sl ([.ref (a 0), .int (nI (rc))]) ++ List.replicate (2 - (lg_sl ([.ref (a 0), .int (nI (rc))])).length) Slot.unset).toArray = ls at hl ⊢
  have hl : lv_has ls 2 [(0, .ref (a 0)), (1, .int (nI (rc)))] := hl
  generalize hHe : s.heap = H at hP
  have hS : va_S A s.heap H [] := by rw [← hHe]; exact va_S.rf
  clear hHe
  generalize hLe : ([] : List Loc) = locs at hS ⊢
  clear hLe
  refine lv_aload_n hx hb dX3_payOtherBills_0 rfl (lv_at hl 0 rfl) ?_
  refine va_get (D := D) (ci := 3) (v := .ref (a 13)) (C := RX3) (T := TX3) (N := 4) hx hb hts (fun w h => List.mem_cons_of_mem _ (List.mem_append_left _ (List.mem_append_left _ (List.mem_append_left _ (List.mem_append_right _ h))))) hown hK hP 0 rfl rfl 1 (by decide) (hts (.fieldLink RX3 19 "CashAllocator" "receiptBook" "LCashAllocator$ReceiptBook;") (by decide +kernel)) (fun _ h9 => h9) rfl dX3_payOtherBills_1 ?_
  refine va_get (D := D) (ci := 2) (v := .ref (a 14)) (C := RX2) (T := TX2) (N := 9) hx hb hts (fun w h => List.mem_cons_of_mem _ (List.mem_append_left _ (List.mem_append_left _ (List.mem_append_right _ h)))) hown hK hP 13 rfl rfl 0 (by decide) (hts (.fieldLink RX3 79 "CashAllocator$ReceiptBook" "customer" "[I") (by decide +kernel)) (fun _ h9 => h9) rfl dX3_payOtherBills_4 ?_
  refine lv_iload_n hx hb dX3_payOtherBills_7 rfl (lv_at hl 1 rfl) ?_
  refine zald hx hb hK hP 14 (n := 30) (f := (R 0)) rfl (rc) rfl (by omega) (by decide) dX3_payOtherBills_8 ?_
  refine lv_iconst (v := (-1)) hx hb dX3_payOtherBills_9 (by decide) ?_
  refine lv_icmp_ne (tgt := 14) hx hb dX3_payOtherBills_10 (by decide) (fun c10 => ?_) (fun c10 => ?_)
  · -- 10 taken
    refine lv_aload_n hx hb dX3_payOtherBills_14 rfl (lv_at hl 0 rfl) ?_
    refine va_get (D := D) (ci := 3) (v := .ref (a 13)) (C := RX3) (T := TX3) (N := 4) hx hb hts (fun w h => List.mem_cons_of_mem _ (List.mem_append_left _ (List.mem_append_left _ (List.mem_append_left _ (List.mem_append_right _ h))))) hown hK hP 0 rfl rfl 1 (by decide) (hts (.fieldLink RX3 19 "CashAllocator" "receiptBook" "LCashAllocator$ReceiptBook;") (by decide +kernel)) (fun _ h9 => h9) rfl dX3_payOtherBills_15 ?_
    refine va_get (D := D) (ci := 2) (v := .ref (a 17)) (C := RX2) (T := TX2) (N := 9) hx hb hts (fun w h => List.mem_cons_of_mem _ (List.mem_append_left _ (List.mem_append_left _ (List.mem_append_right _ h)))) hown hK hP 13 rfl rfl 3 (by decide) (hts (.fieldLink RX3 85 "CashAllocator$ReceiptBook" "unapplied" "[I") (by decide +kernel)) (fun _ h9 => h9) rfl dX3_payOtherBills_18 ?_
    refine lv_iload_n hx hb dX3_payOtherBills_21 rfl (lv_at hl 1 rfl) ?_
    refine zald hx hb hK hP 17 (n := 30) (f := (R 3)) rfl (rc) rfl (by omega) (by decide) dX3_payOtherBills_22 ?_
    refine lv_if_le (tgt := 31) hx hb dX3_payOtherBills_23 (by decide) (fun c23 => ?_) (fun c23 => ?_)
    · -- 23 taken
      refine lv_aload_n hx hb dX3_payOtherBills_31 rfl (lv_at hl 0 rfl) ?_
      refine lv_iload_n hx hb dX3_payOtherBills_32 rfl (lv_at hl 1 rfl) ?_
      refine zcVv (ci := 3) (q0 := 0) (wf := (fun (u : (Nat → Nat → Int32) × (Nat → Nat → Int32)) => (wCA a cI cZ (u.1) (u.2) E (td)))) (List.range 26) ⟨hx, hb, hml, hown, hts⟩ (zwAll 26 (by decide) rfl hP hD hS hA) hK (c_X3_payOldestBills l D cI cZ a H.size (B) (R) (E) (td) (rc) (n) (by first | assumption | omega) (by first | exact hB | (rw [exP_n]; exact hB)) (by first | assumption | omega)) (cwV 1 hts gX3_payOtherBills_X3_payOldestBills rfl rfl rfl (by decide +kernel) ⟨Nat.le_of_ble_eq_true rfl, Nat.le_of_ble_eq_true rfl⟩) rfl rfl (by decide) (fun _ => rfl) rfl hl.1 rfl (Nat.le_of_ble_eq_true rfl) dX3_payOtherBills_33 ⟨Nat.le_of_ble_eq_true rfl, Nat.le_of_ble_eq_true rfl⟩ (fun u H locs hw hP hD hS => ?_)
      subst hw
      have hP : va_P D vwCl (wCA a cI cZ ((oldL (rc) ((R) 0 (rc)) (td) n 0 (B) (R)).1) ((oldL (rc) ((R) 0 (rc)) (td) n 0 (B) (R)).2) E (td)) H := hP
      have hD : va_D A (wCA a cI cZ ((oldL (rc) ((R) 0 (rc)) (td) n 0 (B) (R)).1) ((oldL (rc) ((R) 0 (rc)) (td) n 0 (B) (R)).2) E (td)) := hD
      exact W.vret hx hb hr (fun t ht hW => ⟨⟨(((oldL (rc) ((R) 0 (rc)) (td) n 0 (B) (R)).1), ((oldL (rc) ((R) 0 (rc)) (td) n 0 (B) (R)).2), E), rfl, (by unfold othS; rw [if_neg c10]; first | (rw [if_pos c23]; done) | (rw [if_neg c23]; done)), by rw [ht]; exact hP, va_K.moved hW.alike hK, hD⟩, hS.F ht⟩) hS.2.2 dX3_payOtherBills_36
    · -- 23 on
      refine lv_aload_n hx hb dX3_payOtherBills_26 rfl (lv_at hl 0 rfl) ?_
      refine lv_iload_n hx hb dX3_payOtherBills_27 rfl (lv_at hl 1 rfl) ?_
      refine zcVv (ci := 3) (q0 := 0) (wf := (fun (u : (Nat → Nat → Int32) × (Nat → Nat → Int32) × (Nat → Nat → Int32)) => (wCA a cI cZ (u.1) (u.2.1) (u.2.2) (td)))) (List.range 26) ⟨hx, hb, hml, hown, hts⟩ (zwAll 26 (by decide) rfl hP hD hS hA) hK (c_X3_payExactSet l D cI cZ a H.size (B) (R) (E) (td) (rc) (n) (by first | assumption | omega) (by first | assumption | omega) (by first | assumption | omega)) (cwV 1 hts gX3_payOtherBills_X3_payExactSet rfl rfl rfl (by decide +kernel) ⟨Nat.le_of_ble_eq_true rfl, Nat.le_of_ble_eq_true rfl⟩) rfl rfl (by decide) (fun _ => rfl) rfl hl.1 rfl (Nat.le_of_ble_eq_true rfl) dX3_payOtherBills_28 ⟨Nat.le_of_ble_eq_true rfl, Nat.le_of_ble_eq_true rfl⟩ (fun u H locs hw hP hD hS => ?_)
      subst hw
      have hP : va_P D vwCl (wCA a cI cZ ((exP (cesE (B) (E) ((R) 0 (rc)) ((R) 3 (rc)) (td) n) (rc) (td) n 3 0 (B) (R)).1) ((exP (cesE (B) (E) ((R) 0 (rc)) ((R) 3 (rc)) (td) n) (rc) (td) n 3 0 (B) (R)).2) (cesE (B) (E) ((R) 0 (rc)) ((R) 3 (rc)) (td) n) (td)) H := hP
      have hD : va_D A (wCA a cI cZ ((exP (cesE (B) (E) ((R) 0 (rc)) ((R) 3 (rc)) (td) n) (rc) (td) n 3 0 (B) (R)).1) ((exP (cesE (B) (E) ((R) 0 (rc)) ((R) 3 (rc)) (td) n) (rc) (td) n 3 0 (B) (R)).2) (cesE (B) (E) ((R) 0 (rc)) ((R) 3 (rc)) (td) n) (td)) := hD
      refine lv_aload_n hx hb dX3_payOtherBills_31 rfl (lv_at hl 0 rfl) ?_
      refine lv_iload_n hx hb dX3_payOtherBills_32 rfl (lv_at hl 1 rfl) ?_
      refine zcVv (ci := 3) (q0 := 0) (wf := (fun (u : (Nat → Nat → Int32) × (Nat → Nat → Int32)) => (wCA a cI cZ (u.1) (u.2) (cesE (B) (E) ((R) 0 (rc)) ((R) 3 (rc)) (td) n) (td)))) (List.range 26) ⟨hx, hb, hml, hown, hts⟩ (zwAll 26 (by decide) rfl hP hD hS hA) hK (c_X3_payOldestBills l D cI cZ a H.size (((exP (cesE (B) (E) ((R) 0 (rc)) ((R) 3 (rc)) (td) n) (rc) (td) n 3 0 (B) (R)).1)) (((exP (cesE (B) (E) ((R) 0 (rc)) ((R) 3 (rc)) (td) n) (rc) (td) n 3 0 (B) (R)).2)) ((cesE (B) (E) ((R) 0 (rc)) ((R) 3 (rc)) (td) n)) (td) (rc) (n) (by first | assumption | omega) (by first | exact hB | (rw [exP_n]; exact hB)) (by first | assumption | omega)) (cwV 1 hts gX3_payOtherBills_X3_payOldestBills rfl rfl rfl (by decide +kernel) ⟨Nat.le_of_ble_eq_true rfl, Nat.le_of_ble_eq_true rfl⟩) rfl rfl (by decide) (fun _ => rfl) rfl hl.1 rfl (Nat.le_of_ble_eq_true rfl) dX3_payOtherBills_33 ⟨Nat.le_of_ble_eq_true rfl, Nat.le_of_ble_eq_true rfl⟩ (fun u H locs hw hP hD hS => ?_)
      subst hw
      have hP : va_P D vwCl (wCA a cI cZ ((oldL (rc) ((((exP (cesE (B) (E) ((R) 0 (rc)) ((R) 3 (rc)) (td) n) (rc) (td) n 3 0 (B) (R)).2)) 0 (rc)) (td) n 0 (((exP (cesE (B) (E) ((R) 0 (rc)) ((R) 3 (rc)) (td) n) (rc) (td) n 3 0 (B) (R)).1)) (((exP (cesE (B) (E) ((R) 0 (rc)) ((R) 3 (rc)) (td) n) (rc) (td) n 3 0 (B) (R)).2))).1) ((oldL (rc) ((((exP (cesE (B) (E) ((R) 0 (rc)) ((R) 3 (rc)) (td) n) (rc) (td) n 3 0 (B) (R)).2)) 0 (rc)) (td) n 0 (((exP (cesE (B) (E) ((R) 0 (rc)) ((R) 3 (rc)) (td) n) (rc) (td) n 3 0 (B) (R)).1)) (((exP (cesE (B) (E) ((R) 0 (rc)) ((R) 3 (rc)) (td) n) (rc) (td) n 3 0 (B) (R)).2))).2) (cesE (B) (E) ((R) 0 (rc)) ((R) 3 (rc)) (td) n) (td)) H := hP
      have hD : va_D A (wCA a cI cZ ((oldL (rc) ((((exP (cesE (B) (E) ((R) 0 (rc)) ((R) 3 (rc)) (td) n) (rc) (td) n 3 0 (B) (R)).2)) 0 (rc)) (td) n 0 (((exP (cesE (B) (E) ((R) 0 (rc)) ((R) 3 (rc)) (td) n) (rc) (td) n 3 0 (B) (R)).1)) (((exP (cesE (B) (E) ((R) 0 (rc)) ((R) 3 (rc)) (td) n) (rc) (td) n 3 0 (B) (R)).2))).1) ((oldL (rc) ((((exP (cesE (B) (E) ((R) 0 (rc)) ((R) 3 (rc)) (td) n) (rc) (td) n 3 0 (B) (R)).2)) 0 (rc)) (td) n 0 (((exP (cesE (B) (E) ((R) 0 (rc)) ((R) 3 (rc)) (td) n) (rc) (td) n 3 0 (B) (R)).1)) (((exP (cesE (B) (E) ((R) 0 (rc)) ((R) 3 (rc)) (td) n) (rc) (td) n 3 0 (B) (R)).2))).2) (cesE (B) (E) ((R) 0 (rc)) ((R) 3 (rc)) (td) n) (td)) := hD
      exact W.vret hx hb hr (fun t ht hW => ⟨⟨(((oldL (rc) ((((exP (cesE (B) (E) ((R) 0 (rc)) ((R) 3 (rc)) (td) n) (rc) (td) n 3 0 (B) (R)).2)) 0 (rc)) (td) n 0 (((exP (cesE (B) (E) ((R) 0 (rc)) ((R) 3 (rc)) (td) n) (rc) (td) n 3 0 (B) (R)).1)) (((exP (cesE (B) (E) ((R) 0 (rc)) ((R) 3 (rc)) (td) n) (rc) (td) n 3 0 (B) (R)).2))).1), ((oldL (rc) ((((exP (cesE (B) (E) ((R) 0 (rc)) ((R) 3 (rc)) (td) n) (rc) (td) n 3 0 (B) (R)).2)) 0 (rc)) (td) n 0 (((exP (cesE (B) (E) ((R) 0 (rc)) ((R) 3 (rc)) (td) n) (rc) (td) n 3 0 (B) (R)).1)) (((exP (cesE (B) (E) ((R) 0 (rc)) ((R) 3 (rc)) (td) n) (rc) (td) n 3 0 (B) (R)).2))).2), (cesE (B) (E) ((R) 0 (rc)) ((R) 3 (rc)) (td) n)), rfl, (by unfold othS; rw [if_neg c10]; first | (rw [if_pos c23]; done) | (rw [if_neg c23]; done)), by rw [ht]; exact hP, va_K.moved hW.alike hK, hD⟩, hS.F ht⟩) hS.2.2 dX3_payOtherBills_36
  · -- 10 on
    exact W.vret hx hb hr (fun t ht hW => ⟨⟨(B, R, E), rfl, (by unfold othS; rw [if_pos c10]), by rw [ht]; exact hP, va_K.moved hW.alike hK, hD⟩, hS.F ht⟩) hS.2.2 dX3_payOtherBills_13
set_option maxHeartbeats 4000000 in
set_option maxRecDepth 100000 in
theorem c_X3_payNamedBills (l : Launch) (D : va_G) (cI cZ : ClassId) (a : Nat → Nat) (sz : Nat) (B : Nat → Nat → Int32) (R : Nat → Nat → Int32) (E : Nat → Nat → Int32) (td : Int32) (rc : Nat) (rf : Int32) (n : Nat) (hrc : rc < 30) (hB : B 11 0 = nI n) (hn : n ≤ 40) : Met l yX3_payNamedBills wsX3_payNamedBills ({ frames := 4, cells := 0, slots := 0, locals := 92 } : Room) (va_Pc [.ref (a 0), .int (nI (rc)), .int (rf)] (PreW D cI cZ (wCA a cI cZ B R E (td)) sz)) (va_Qv (fun (u : (Nat → Nat → Int32) × (Nat → Nat → Int32)) => u = namS B R rc rf n td) (fun (u : (Nat → Nat → Int32) × (Nat → Nat → Int32)) => PostW D cI cZ (va_A (wCA a cI cZ B R E (td)) sz) (wCA a cI cZ (u.1) (u.2) E (td))) (va_A (wCA a cI cZ B R E (td)) sz)) 0 0 (va_A (wCA a cI cZ B R E (td)) sz) := by
  refine Met.ofW (cc := cX3_payNamedBills) (maxL := 6) (ret := none) (by decide) rfl ?_
  intro p e s m args below meth c s₁ BB hml hv
  obtain ⟨rfl, hsz, hP, hK, hD0⟩ := hv
  have hx := BB.exec
  have hb := BB.bytes
  have hr := BB.returns
  have hts := atoms_spec (ws := wsX3_payNamedBills) BB.pre
  have hown : s.vm.findClass RX3 = some m.cls := findClass_of_methodNamed BB.named
  have hlocks := BB.notSynchronized
  clear BB
  subst hsz
  have hD := hD0.self (sz := s.heap.size)
  clear hD0
  generalize hAe : va_A (wCA a cI cZ B R E (td)) s.heap.size = A at hD ⊢
  have hA : ∀ q : Nat, s.heap.size ≤ q → A q := fun q h => by rw [← hAe]; exact Or.inr h
  clear hAe
  have hS : va_S A s.heap s.heap [] := va_S.rf
  have hl := lv_entry ([.ref (a 0), .int (nI (rc)), .int (rf)]) (n := 6) (Nat.le_of_ble_eq_true rfl)
  rw [lg_entry_eq]
  generalize (lg_sl ([.ref (a 0), .int (nI (rc)), .int (rf)]) ++ List.replicate (6 - (lg_sl ([.ref (a 0), .int (nI (rc)), .int (rf)])).length) Slot.unset).toArray = ls at hl ⊢
  have hl : lv_has ls 6 [(0, .ref (a 0)), (1, .int (nI (rc))), (2, .int (rf))] := hl
  generalize hHe : s.heap = H at hP
  have hS : va_S A s.heap H [] := by rw [← hHe]; exact va_S.rf
  clear hHe
  generalize hLe : ([] : List Loc) = locs at hS ⊢
  clear hLe
  refine lv_aload_n hx hb dX3_payNamedBills_0 rfl (lv_at hl 0 rfl) ?_
  refine va_get (D := D) (ci := 3) (v := .ref (a 13)) (C := RX3) (T := TX3) (N := 4) hx hb hts (fun w h => List.mem_cons_of_mem _ (List.mem_append_left _ (List.mem_append_left _ (List.mem_append_right _ h)))) hown hK hP 0 rfl rfl 1 (by decide) (hts (.fieldLink RX3 19 "CashAllocator" "receiptBook" "LCashAllocator$ReceiptBook;") (by decide +kernel)) (fun _ h9 => h9) rfl dX3_payNamedBills_1 ?_
  refine va_get (D := D) (ci := 2) (v := .ref (a 14)) (C := RX2) (T := TX2) (N := 9) hx hb hts (fun w h => List.mem_cons_of_mem _ (List.mem_append_left _ (List.mem_append_right _ h))) hown hK hP 13 rfl rfl 0 (by decide) (hts (.fieldLink RX3 79 "CashAllocator$ReceiptBook" "customer" "[I") (by decide +kernel)) (fun _ h9 => h9) rfl dX3_payNamedBills_4 ?_
  refine lv_iload_n hx hb dX3_payNamedBills_7 rfl (lv_at hl 1 rfl) ?_
  refine zald hx hb hK hP 14 (n := 30) (f := (R 0)) rfl (rc) rfl (by omega) (by decide) dX3_payNamedBills_8 ?_
  refine lv_iconst (v := (-1)) hx hb dX3_payNamedBills_9 (by decide) ?_
  refine lv_icmp_ne (tgt := 30) hx hb dX3_payNamedBills_10 (by decide) (fun c10 => ?_) (fun c10 => ?_)
  · -- 10 taken
    obtain ⟨R1, hR1⟩ : ∃ z, z = R := ⟨_, rfl⟩
    rw [← hR1] at hP hD
    obtain ⟨cv, hcv⟩ : ∃ z, z = R1 0 rc := ⟨_, rfl⟩
    have hst : namS B R rc rf n td = namL rc rf cv td (n - 0) 0 B R1 := by rw [hcv, hR1]; unfold namS; first | (rw [if_pos c10]; rfl) | (rw [if_neg c10]; rfl)
    refine lv_aload_n hx hb dX3_payNamedBills_30 rfl (lv_at hl 0 rfl) ?_
    refine va_get (D := D) (ci := 3) (v := .ref (a 13)) (C := RX3) (T := TX3) (N := 4) hx hb hts (fun w h => List.mem_cons_of_mem _ (List.mem_append_left _ (List.mem_append_left _ (List.mem_append_right _ h)))) hown hK hP 0 rfl rfl 1 (by decide) (hts (.fieldLink RX3 19 "CashAllocator" "receiptBook" "LCashAllocator$ReceiptBook;") (by decide +kernel)) (fun _ h9 => h9) rfl dX3_payNamedBills_31 ?_
    refine va_get (D := D) (ci := 2) (v := .ref (a 14)) (C := RX2) (T := TX2) (N := 9) hx hb hts (fun w h => List.mem_cons_of_mem _ (List.mem_append_left _ (List.mem_append_right _ h))) hown hK hP 13 rfl rfl 0 (by decide) (hts (.fieldLink RX3 79 "CashAllocator$ReceiptBook" "customer" "[I") (by decide +kernel)) (fun _ h9 => h9) rfl dX3_payNamedBills_34 ?_
    refine lv_iload_n hx hb dX3_payNamedBills_37 rfl (lv_at hl 1 rfl) ?_
    refine zald hx hb hK hP 14 (n := 30) (f := (R1 0)) rfl (rc) rfl (by omega) (by decide) dX3_payNamedBills_38 ?_
    refine lv_istore_n (lv' := [(3, .int (R1 0 (rc))), (0, .ref (a 0)), (1, .int (nI (rc))), (2, .int (rf))]) hx hb dX3_payNamedBills_39 rfl hl (by decide) rfl (fun ls hl => ?_)
    refine lv_iconst (v := nI (0)) hx hb dX3_payNamedBills_40 (by decide) ?_
    refine lv_istore (lv' := [(4, .int (nI (0))), (3, .int (R1 0 (rc))), (0, .ref (a 0)), (1, .int (nI (rc))), (2, .int (rf))]) hx hb dX3_payNamedBills_41 hl (by decide) rfl (fun ls hl => ?_)
    have loop43 : ∀ (fu : Nat) (i : Nat) (Bi : Nat → Nat → Int32) (Ri : Nat → Nat → Int32) (hin : i ≤ n) (hBi : Bi 11 0 = nI n) (hg : namS B R rc rf n td = namL rc rf cv td (n - i) i Bi Ri) (hfu : n - i < fu) (H : Heap) (locs : List Loc) (hP : va_P D vwCl (wCA a cI cZ Bi Ri E (td)) H) (hD : va_D A (wCA a cI cZ Bi Ri E (td))) (hS : va_S A s.heap H locs) (ls : Array Slot) (hl : lv_has ls 6 [(4, .int (nI (i))), (3, .int (cv)), (0, .ref (a 0)), (1, .int (nI (rc))), (2, .int (rf))]), W p l e (headSpec wsX3_payNamedBills ({ frames := 4, cells := 0, slots := 0, locals := 92 } : Room)).room s m ([.ref (a 0), .int (nI (rc)), .int (rf)] : List Value).toArray below meth c H locs 0 0 (MQ below (va_Qv (fun (u : (Nat → Nat → Int32) × (Nat → Nat → Int32)) => u = namS B R rc rf n td) (fun (u : (Nat → Nat → Int32) × (Nat → Nat → Int32)) => PostW D cI cZ A (wCA a cI cZ (u.1) (u.2) E (td))) A) ([.ref (a 0), .int (nI (rc)), .int (rf)] : List Value).toArray s 0 0 A) (F0 m 43 ls []) := by
      clear hP hD hS hl
      intro fu43
      induction fu43 with
      | zero => intro i Bi Ri hin hBi hg hfu; exact absurd hfu (Nat.not_lt_zero _)
      | succ fu43 ih43 =>
        intro i Bi Ri hin hBi hg hfu H locs hP hD hS ls hl
        refine lv_iload hx hb dX3_payNamedBills_43 (lv_at hl 0 rfl) ?_
        refine lv_aload_n hx hb dX3_payNamedBills_45 rfl (lv_at hl 2 rfl) ?_
        refine va_get (D := D) (ci := 3) (v := .ref (a 1)) (C := RX3) (T := TX3) (N := 4) hx hb hts (fun w h => List.mem_cons_of_mem _ (List.mem_append_left _ (List.mem_append_left _ (List.mem_append_right _ h)))) hown hK hP 0 rfl rfl 0 (by decide) (hts (.fieldLink RX3 10 "CashAllocator" "billBook" "LCashAllocator$BillBook;") (by decide +kernel)) (fun _ h9 => h9) rfl dX3_payNamedBills_46 ?_
        refine va_get (D := D) (ci := 0) (v := .int (nI (n))) (C := RX0) (T := TX0) (N := 12) hx hb hts (fun w h => List.mem_cons_of_mem _ (List.mem_append_right _ h)) hown hK hP 1 rfl rfl 11 (by decide) (hts (.fieldLink RX3 43 "CashAllocator$BillBook" "count" "I") (by decide +kernel)) (fun _ h9 => h9) (congrArg (fun z => some (Value.int z)) hBi) dX3_payNamedBills_49 ?_
        refine lv_icmp_ge (tgt := 124) hx hb dX3_payNamedBills_52 (by decide) (fun c52 => ?_) (fun c52 => ?_)
        · -- 52 taken
          rw [nI_leI (by omega) (by omega)] at c52
          have hfin : (Bi, Ri) = namS B R rc rf n td := by rw [hg, show n - i = 0 by omega]; rfl
          exact W.vret hx hb hr (fun t ht hW => ⟨⟨(Bi, Ri), rfl, hfin, by rw [ht]; exact hP, va_K.moved hW.alike hK, hD⟩, hS.F ht⟩) hS.2.2 dX3_payNamedBills_124
        · -- 52 on
          rw [nI_leI (by omega) (by omega)] at c52
          have c52 : i < n := by omega
          have hk : n - i = (n - (i + 1)) + 1 := by omega
          rw [hk] at hg
          refine lv_aload_n hx hb dX3_payNamedBills_55 rfl (lv_at hl 2 rfl) ?_
          refine va_get (D := D) (ci := 3) (v := .ref (a 13)) (C := RX3) (T := TX3) (N := 4) hx hb hts (fun w h => List.mem_cons_of_mem _ (List.mem_append_left _ (List.mem_append_left _ (List.mem_append_right _ h)))) hown hK hP 0 rfl rfl 1 (by decide) (hts (.fieldLink RX3 19 "CashAllocator" "receiptBook" "LCashAllocator$ReceiptBook;") (by decide +kernel)) (fun _ h9 => h9) rfl dX3_payNamedBills_56 ?_
          refine va_get (D := D) (ci := 2) (v := .ref (a 17)) (C := RX2) (T := TX2) (N := 9) hx hb hts (fun w h => List.mem_cons_of_mem _ (List.mem_append_left _ (List.mem_append_right _ h))) hown hK hP 13 rfl rfl 3 (by decide) (hts (.fieldLink RX3 85 "CashAllocator$ReceiptBook" "unapplied" "[I") (by decide +kernel)) (fun _ h9 => h9) rfl dX3_payNamedBills_59 ?_
          refine lv_iload_n hx hb dX3_payNamedBills_62 rfl (lv_at hl 3 rfl) ?_
          refine zald hx hb hK hP 17 (n := 30) (f := (Ri 3)) rfl (rc) rfl (by omega) (by decide) dX3_payNamedBills_63 ?_
          refine lv_if_le (tgt := 124) hx hb dX3_payNamedBills_64 (by decide) (fun c64 => ?_) (fun c64 => ?_)
          · -- 64 taken
            have hfin : (Bi, Ri) = namS B R rc rf n td := by rw [hg, namL, if_pos c64]
            exact W.vret hx hb hr (fun t ht hW => ⟨⟨(Bi, Ri), rfl, hfin, by rw [ht]; exact hP, va_K.moved hW.alike hK, hD⟩, hS.F ht⟩) hS.2.2 dX3_payNamedBills_124
          · -- 64 on
            refine lv_aload_n hx hb dX3_payNamedBills_67 rfl (lv_at hl 2 rfl) ?_
            refine va_get (D := D) (ci := 3) (v := .ref (a 1)) (C := RX3) (T := TX3) (N := 4) hx hb hts (fun w h => List.mem_cons_of_mem _ (List.mem_append_left _ (List.mem_append_left _ (List.mem_append_right _ h)))) hown hK hP 0 rfl rfl 0 (by decide) (hts (.fieldLink RX3 10 "CashAllocator" "billBook" "LCashAllocator$BillBook;") (by decide +kernel)) (fun _ h9 => h9) rfl dX3_payNamedBills_68 ?_
            refine lv_iload hx hb dX3_payNamedBills_71 (lv_at hl 0 rfl) ?_
            refine lv_iload_n hx hb dX3_payNamedBills_73 rfl (lv_at hl 1 rfl) ?_
            refine zcVi (ci := 0) (q0 := 0) (wf := (fun (u : Unit) => (wCA a cI cZ Bi Ri E (td)))) ksBB ⟨hx, hb, hml, hown, hts⟩ (zwBB hP hD hS hA) hK (c_X0_isOpenFor l D cI cZ a H.size (Bi) (i) (cv) (by first | assumption | omega)) (cwV 2 hts gX3_payNamedBills_X0_isOpenFor rfl rfl rfl (by decide +kernel) ⟨Nat.le_of_ble_eq_true rfl, Nat.le_of_ble_eq_true rfl⟩) rfl rfl (by decide) (fun _ => zkBB _) rfl hl.1 rfl (Nat.le_of_ble_eq_true rfl) dX3_payNamedBills_74 ⟨Nat.le_of_ble_eq_true rfl, Nat.le_of_ble_eq_true rfl⟩ (fun r74 u H locs hw hP hD hS => ?_)
            subst hw
            refine lv_if_eq (tgt := 118) hx hb dX3_payNamedBills_77 (by decide) (fun c77 => ?_) (fun c77 => ?_)
            · -- 77 taken
              have c77 := b2_0 c77
              have hg2 : namS B R rc rf n td = namL rc rf cv td (n - (i + 1)) (i + 1) Bi Ri := by rw [hg, namL, if_neg c64, if_neg (fun z => c77 z.1)]
              refine lv_iinc (v := nI (i + 1)) (lv' := [(4, .int (nI (i + 1))), (3, .int (cv)), (0, .ref (a 0)), (1, .int (nI (rc))), (2, .int (rf))]) hx hb dX3_payNamedBills_118 hl (k := 0) rfl (nI_1 _) (by decide) rfl (fun ls hl => ?_)
              refine lv_goto (tgt := 43) hx hb dX3_payNamedBills_121 (by decide) ?_
              exact ih43 (i + 1) (Bi) (Ri) (by omega) hBi hg2 (by omega) _ _ hP hD hS _ (lv_sub hl [0, 1, 2, 3, 4] rfl)
            · -- 77 on
              have c77 := b2_1 c77
              refine lv_aload_n hx hb dX3_payNamedBills_80 rfl (lv_at hl 2 rfl) ?_
              refine va_get (D := D) (ci := 3) (v := .ref (a 1)) (C := RX3) (T := TX3) (N := 4) hx hb hts (fun w h => List.mem_cons_of_mem _ (List.mem_append_left _ (List.mem_append_left _ (List.mem_append_right _ h)))) hown hK hP 0 rfl rfl 0 (by decide) (hts (.fieldLink RX3 10 "CashAllocator" "billBook" "LCashAllocator$BillBook;") (by decide +kernel)) (fun _ h9 => h9) rfl dX3_payNamedBills_81 ?_
              refine va_get (D := D) (ci := 0) (v := .ref (a 4)) (C := RX0) (T := TX0) (N := 12) hx hb hts (fun w h => List.mem_cons_of_mem _ (List.mem_append_right _ h)) hown hK hP 1 rfl rfl 2 (by decide) (hts (.fieldLink RX3 185 "CashAllocator$BillBook" "reference" "[I") (by decide +kernel)) (fun _ h9 => h9) rfl dX3_payNamedBills_84 ?_
              refine lv_iload hx hb dX3_payNamedBills_87 (lv_at hl 0 rfl) ?_
              refine zald hx hb hK hP 4 (n := 40) (f := (Bi 2)) rfl (i) rfl (by omega) (by decide) dX3_payNamedBills_89 ?_
              refine lv_iload_n hx hb dX3_payNamedBills_90 rfl (lv_at hl 4 rfl) ?_
              refine lv_icmp_ne (tgt := 118) hx hb dX3_payNamedBills_91 (by decide) (fun c91 => ?_) (fun c91 => ?_)
              · -- 91 taken
                have hg2 : namS B R rc rf n td = namL rc rf cv td (n - (i + 1)) (i + 1) Bi Ri := by rw [hg, namL, if_neg c64, if_neg (fun z => c91 z.2)]
                refine lv_iinc (v := nI (i + 1)) (lv' := [(4, .int (nI (i + 1))), (3, .int (cv)), (0, .ref (a 0)), (1, .int (nI (rc))), (2, .int (rf))]) hx hb dX3_payNamedBills_118 hl (k := 0) rfl (nI_1 _) (by decide) rfl (fun ls hl => ?_)
                refine lv_goto (tgt := 43) hx hb dX3_payNamedBills_121 (by decide) ?_
                exact ih43 (i + 1) (Bi) (Ri) (by omega) hBi hg2 (by omega) _ _ hP hD hS _ (lv_sub hl [0, 1, 2, 3, 4] rfl)
              · -- 91 on
                refine lv_aload_n hx hb dX3_payNamedBills_94 rfl (lv_at hl 2 rfl) ?_
                refine lv_iload_n hx hb dX3_payNamedBills_95 rfl (lv_at hl 3 rfl) ?_
                refine lv_iload hx hb dX3_payNamedBills_96 (lv_at hl 0 rfl) ?_
                refine zcVi (ci := 3) (q0 := 0) (wf := (fun (u : (Nat → Nat → Int32) × (Nat → Nat → Int32)) => (wCA a cI cZ (u.1) (u.2) E (td)))) (List.range 26) ⟨hx, hb, hml, hown, hts⟩ (zwAll 26 (by decide) rfl hP hD hS hA) hK (c_X3_payBill l D cI cZ a H.size (Bi) (Ri) (E) (td) (rc) (i) (by first | assumption | omega) (by first | assumption | omega)) (cwV 2 hts gX3_payNamedBills_X3_payBill rfl rfl rfl (by decide +kernel) ⟨Nat.le_of_ble_eq_true rfl, Nat.le_of_ble_eq_true rfl⟩) rfl rfl (by decide) (fun _ => rfl) rfl hl.1 rfl (Nat.le_of_ble_eq_true rfl) dX3_payNamedBills_98 ⟨Nat.le_of_ble_eq_true rfl, Nat.le_of_ble_eq_true rfl⟩ (fun r98 u H locs hw hP hD hS => ?_)
                obtain ⟨rfl, rfl⟩ := hw
                have hP : va_P D vwCl (wCA a cI cZ (payB (Bi) (Ri) (rc) (i) (td)) (payR (Bi) (Ri) (rc) (i) (td)) E (td)) H := hP
                have hD : va_D A (wCA a cI cZ (payB (Bi) (Ri) (rc) (i) (td)) (payR (Bi) (Ri) (rc) (i) (td)) E (td)) := hD
                refine lv_istore (lv' := [(5, .int (b2 (¬ (Ri) 3 (rc) < dueN (Bi) (i) (td)))), (4, .int (nI (i))), (3, .int (cv)), (0, .ref (a 0)), (1, .int (nI (rc))), (2, .int (rf))]) hx hb dX3_payNamedBills_101 hl (by decide) rfl (fun ls hl => ?_)
                refine lv_iload hx hb dX3_payNamedBills_103 (lv_at hl 0 rfl) ?_
                refine lv_if_ne (tgt := 118) hx hb dX3_payNamedBills_105 (by decide) (fun c105 => ?_) (fun c105 => ?_)
                · -- 105 taken
                  have c105 := b2_1 c105
                  have hg2 : namS B R rc rf n td = namL rc rf cv td (n - (i + 1)) (i + 1) (payB Bi Ri rc i td) (payR Bi Ri rc i td) := by rw [hg, namL, if_neg c64, if_pos ⟨c77, c91⟩, if_pos c105]
                  refine lv_iinc (v := nI (i + 1)) (lv' := [(4, .int (nI (i + 1))), (5, .int (b2 (¬ (Ri) 3 (rc) < dueN (Bi) (i) (td)))), (3, .int (cv)), (0, .ref (a 0)), (1, .int (nI (rc))), (2, .int (rf))]) hx hb dX3_payNamedBills_118 hl (k := 1) rfl (nI_1 _) (by decide) rfl (fun ls hl => ?_)
                  refine lv_goto (tgt := 43) hx hb dX3_payNamedBills_121 (by decide) ?_
                  exact ih43 (i + 1) ((payB (Bi) (Ri) (rc) (i) (td))) ((payR (Bi) (Ri) (rc) (i) (td))) (by omega) (by rw [payB_n]; exact hBi) hg2 (by omega) _ _ hP hD hS _ (lv_sub hl [0, 2, 3, 4, 5] rfl)
                · -- 105 on
                  have c105 := b2_0 c105
                  have hg2 : namS B R rc rf n td = namL rc rf cv td (n - (i + 1)) (i + 1) (dsp (payB Bi Ri rc i td) i (nI rc)) (payR Bi Ri rc i td) := by rw [hg, namL, if_neg c64, if_pos ⟨c77, c91⟩, if_neg c105]
                  refine lv_aload_n hx hb dX3_payNamedBills_108 rfl (lv_at hl 3 rfl) ?_
                  refine va_get (D := D) (ci := 3) (v := .ref (a 1)) (C := RX3) (T := TX3) (N := 4) hx hb hts (fun w h => List.mem_cons_of_mem _ (List.mem_append_left _ (List.mem_append_left _ (List.mem_append_right _ h)))) hown hK hP 0 rfl rfl 0 (by decide) (hts (.fieldLink RX3 10 "CashAllocator" "billBook" "LCashAllocator$BillBook;") (by decide +kernel)) (fun _ h9 => h9) rfl dX3_payNamedBills_109 ?_
                  refine lv_iload hx hb dX3_payNamedBills_112 (lv_at hl 1 rfl) ?_
                  refine lv_iload_n hx hb dX3_payNamedBills_114 rfl (lv_at hl 4 rfl) ?_
                  refine zcVv (ci := 0) (q0 := 0) (wf := (fun (u : Nat → Nat → Int32) => (wCA a cI cZ u (payR (Bi) (Ri) (rc) (i) (td)) E (td)))) ksBB ⟨hx, hb, hml, hown, hts⟩ (zwBB hP hD hS hA) hK (c_X0_disputeRest l D cI cZ a H.size ((payB (Bi) (Ri) (rc) (i) (td))) (i) (nI (rc)) (by first | assumption | omega)) (cwV 2 hts gX3_payNamedBills_X0_disputeRest rfl rfl rfl (by decide +kernel) ⟨Nat.le_of_ble_eq_true rfl, Nat.le_of_ble_eq_true rfl⟩) rfl rfl (by decide) (fun _ => zkBB _) rfl hl.1 rfl (Nat.le_of_ble_eq_true rfl) dX3_payNamedBills_115 ⟨Nat.le_of_ble_eq_true rfl, Nat.le_of_ble_eq_true rfl⟩ (fun u H locs hw hP hD hS => ?_)
                  subst hw
                  have hP : va_P D vwCl (wCA a cI cZ (dsp ((payB (Bi) (Ri) (rc) (i) (td))) (i) (nI (rc))) (payR (Bi) (Ri) (rc) (i) (td)) E (td)) H := hP
                  have hD : va_D A (wCA a cI cZ (dsp ((payB (Bi) (Ri) (rc) (i) (td))) (i) (nI (rc))) (payR (Bi) (Ri) (rc) (i) (td)) E (td)) := hD
                  refine lv_iinc (v := nI (i + 1)) (lv' := [(4, .int (nI (i + 1))), (5, .int (b2 (¬ (Ri) 3 (rc) < dueN (Bi) (i) (td)))), (3, .int (cv)), (0, .ref (a 0)), (1, .int (nI (rc))), (2, .int (rf))]) hx hb dX3_payNamedBills_118 hl (k := 1) rfl (nI_1 _) (by decide) rfl (fun ls hl => ?_)
                  refine lv_goto (tgt := 43) hx hb dX3_payNamedBills_121 (by decide) ?_
                  exact ih43 (i + 1) ((dsp ((payB (Bi) (Ri) (rc) (i) (td))) (i) (nI (rc)))) ((payR (Bi) (Ri) (rc) (i) (td))) (by omega) (by rw [dsp_n, payB_n]; exact hBi) hg2 (by omega) _ _ hP hD hS _ (lv_sub hl [0, 2, 3, 4, 5] rfl)
    rw [← hcv] at hl
    exact loop43 _ (0) (B) (R1) (Nat.zero_le _) (hB) (hst) (Nat.lt_succ_self _) _ _ hP hD hS _ (lv_sub hl [0, 1, 2, 3, 4] rfl)
  · -- 10 on
    refine lv_aload_n hx hb dX3_payNamedBills_13 rfl (lv_at hl 0 rfl) ?_
    refine va_get (D := D) (ci := 3) (v := .ref (a 13)) (C := RX3) (T := TX3) (N := 4) hx hb hts (fun w h => List.mem_cons_of_mem _ (List.mem_append_left _ (List.mem_append_left _ (List.mem_append_right _ h)))) hown hK hP 0 rfl rfl 1 (by decide) (hts (.fieldLink RX3 19 "CashAllocator" "receiptBook" "LCashAllocator$ReceiptBook;") (by decide +kernel)) (fun _ h9 => h9) rfl dX3_payNamedBills_14 ?_
    refine va_get (D := D) (ci := 2) (v := .ref (a 14)) (C := RX2) (T := TX2) (N := 9) hx hb hts (fun w h => List.mem_cons_of_mem _ (List.mem_append_left _ (List.mem_append_right _ h))) hown hK hP 13 rfl rfl 0 (by decide) (hts (.fieldLink RX3 79 "CashAllocator$ReceiptBook" "customer" "[I") (by decide +kernel)) (fun _ h9 => h9) rfl dX3_payNamedBills_17 ?_
    refine lv_iload_n hx hb dX3_payNamedBills_20 rfl (lv_at hl 1 rfl) ?_
    refine lv_aload_n hx hb dX3_payNamedBills_21 rfl (lv_at hl 0 rfl) ?_
    refine va_get (D := D) (ci := 3) (v := .ref (a 1)) (C := RX3) (T := TX3) (N := 4) hx hb hts (fun w h => List.mem_cons_of_mem _ (List.mem_append_left _ (List.mem_append_left _ (List.mem_append_right _ h)))) hown hK hP 0 rfl rfl 0 (by decide) (hts (.fieldLink RX3 10 "CashAllocator" "billBook" "LCashAllocator$BillBook;") (by decide +kernel)) (fun _ h9 => h9) rfl dX3_payNamedBills_22 ?_
    refine lv_iload_n hx hb dX3_payNamedBills_25 rfl (lv_at hl 2 rfl) ?_
    refine zcVi (ci := 0) (q0 := 0) (wf := (fun (u : Unit) => (wCA a cI cZ B R E (td)))) ksBB ⟨hx, hb, hml, hown, hts⟩ (zwBB hP hD hS hA) hK (c_X0_customerNamedBy l D cI cZ a H.size (B) (rf) (n) (by first | assumption | omega) (by first | assumption | omega)) (cwV 1 hts gX3_payNamedBills_X0_customerNamedBy rfl rfl rfl (by decide +kernel) ⟨Nat.le_of_ble_eq_true rfl, Nat.le_of_ble_eq_true rfl⟩) rfl rfl (by decide) (fun _ => zkBB _) rfl hl.1 rfl (Nat.le_of_ble_eq_true rfl) dX3_payNamedBills_26 ⟨Nat.le_of_ble_eq_true rfl, Nat.le_of_ble_eq_true rfl⟩ (fun r26 u H locs hw hP hD hS => ?_)
    subst hw
    refine zast hx hb hK hP hD hS 14 (n := 30) (f := (R 0)) rfl (rc) rfl (by omega) (by decide) (wCA a cI cZ B (pt R 0 (rc) (nmd (B) (rf) n 0)) E (td)) rfl dX3_payNamedBills_29 (fun H locs hP hD hS => ?_)
    obtain ⟨R1, hR1⟩ : ∃ z, z = (pt R 0 (rc) (nmd (B) (rf) n 0)) := ⟨_, rfl⟩
    rw [← hR1] at hP hD
    obtain ⟨cv, hcv⟩ : ∃ z, z = R1 0 rc := ⟨_, rfl⟩
    have hst : namS B R rc rf n td = namL rc rf cv td (n - 0) 0 B R1 := by rw [hcv, hR1]; unfold namS; first | (rw [if_pos c10]; rfl) | (rw [if_neg c10]; rfl)
    refine lv_aload_n hx hb dX3_payNamedBills_30 rfl (lv_at hl 0 rfl) ?_
    refine va_get (D := D) (ci := 3) (v := .ref (a 13)) (C := RX3) (T := TX3) (N := 4) hx hb hts (fun w h => List.mem_cons_of_mem _ (List.mem_append_left _ (List.mem_append_left _ (List.mem_append_right _ h)))) hown hK hP 0 rfl rfl 1 (by decide) (hts (.fieldLink RX3 19 "CashAllocator" "receiptBook" "LCashAllocator$ReceiptBook;") (by decide +kernel)) (fun _ h9 => h9) rfl dX3_payNamedBills_31 ?_
    refine va_get (D := D) (ci := 2) (v := .ref (a 14)) (C := RX2) (T := TX2) (N := 9) hx hb hts (fun w h => List.mem_cons_of_mem _ (List.mem_append_left _ (List.mem_append_right _ h))) hown hK hP 13 rfl rfl 0 (by decide) (hts (.fieldLink RX3 79 "CashAllocator$ReceiptBook" "customer" "[I") (by decide +kernel)) (fun _ h9 => h9) rfl dX3_payNamedBills_34 ?_
    refine lv_iload_n hx hb dX3_payNamedBills_37 rfl (lv_at hl 1 rfl) ?_
    refine zald hx hb hK hP 14 (n := 30) (f := (R1 0)) rfl (rc) rfl (by omega) (by decide) dX3_payNamedBills_38 ?_
    refine lv_istore_n (lv' := [(3, .int (R1 0 (rc))), (0, .ref (a 0)), (1, .int (nI (rc))), (2, .int (rf))]) hx hb dX3_payNamedBills_39 rfl hl (by decide) rfl (fun ls hl => ?_)
    refine lv_iconst (v := nI (0)) hx hb dX3_payNamedBills_40 (by decide) ?_
    refine lv_istore (lv' := [(4, .int (nI (0))), (3, .int (R1 0 (rc))), (0, .ref (a 0)), (1, .int (nI (rc))), (2, .int (rf))]) hx hb dX3_payNamedBills_41 hl (by decide) rfl (fun ls hl => ?_)
    have loop43 : ∀ (fu : Nat) (i : Nat) (Bi : Nat → Nat → Int32) (Ri : Nat → Nat → Int32) (hin : i ≤ n) (hBi : Bi 11 0 = nI n) (hg : namS B R rc rf n td = namL rc rf cv td (n - i) i Bi Ri) (hfu : n - i < fu) (H : Heap) (locs : List Loc) (hP : va_P D vwCl (wCA a cI cZ Bi Ri E (td)) H) (hD : va_D A (wCA a cI cZ Bi Ri E (td))) (hS : va_S A s.heap H locs) (ls : Array Slot) (hl : lv_has ls 6 [(4, .int (nI (i))), (3, .int (cv)), (0, .ref (a 0)), (1, .int (nI (rc))), (2, .int (rf))]), W p l e (headSpec wsX3_payNamedBills ({ frames := 4, cells := 0, slots := 0, locals := 92 } : Room)).room s m ([.ref (a 0), .int (nI (rc)), .int (rf)] : List Value).toArray below meth c H locs 0 0 (MQ below (va_Qv (fun (u : (Nat → Nat → Int32) × (Nat → Nat → Int32)) => u = namS B R rc rf n td) (fun (u : (Nat → Nat → Int32) × (Nat → Nat → Int32)) => PostW D cI cZ A (wCA a cI cZ (u.1) (u.2) E (td))) A) ([.ref (a 0), .int (nI (rc)), .int (rf)] : List Value).toArray s 0 0 A) (F0 m 43 ls []) := by
      clear hP hD hS hl
      intro fu43
      induction fu43 with
      | zero => intro i Bi Ri hin hBi hg hfu; exact absurd hfu (Nat.not_lt_zero _)
      | succ fu43 ih43 =>
        intro i Bi Ri hin hBi hg hfu H locs hP hD hS ls hl
        refine lv_iload hx hb dX3_payNamedBills_43 (lv_at hl 0 rfl) ?_
        refine lv_aload_n hx hb dX3_payNamedBills_45 rfl (lv_at hl 2 rfl) ?_
        refine va_get (D := D) (ci := 3) (v := .ref (a 1)) (C := RX3) (T := TX3) (N := 4) hx hb hts (fun w h => List.mem_cons_of_mem _ (List.mem_append_left _ (List.mem_append_left _ (List.mem_append_right _ h)))) hown hK hP 0 rfl rfl 0 (by decide) (hts (.fieldLink RX3 10 "CashAllocator" "billBook" "LCashAllocator$BillBook;") (by decide +kernel)) (fun _ h9 => h9) rfl dX3_payNamedBills_46 ?_
        refine va_get (D := D) (ci := 0) (v := .int (nI (n))) (C := RX0) (T := TX0) (N := 12) hx hb hts (fun w h => List.mem_cons_of_mem _ (List.mem_append_right _ h)) hown hK hP 1 rfl rfl 11 (by decide) (hts (.fieldLink RX3 43 "CashAllocator$BillBook" "count" "I") (by decide +kernel)) (fun _ h9 => h9) (congrArg (fun z => some (Value.int z)) hBi) dX3_payNamedBills_49 ?_
        refine lv_icmp_ge (tgt := 124) hx hb dX3_payNamedBills_52 (by decide) (fun c52 => ?_) (fun c52 => ?_)
        · -- 52 taken
          rw [nI_leI (by omega) (by omega)] at c52
          have hfin : (Bi, Ri) = namS B R rc rf n td := by rw [hg, show n - i = 0 by omega]; rfl
          exact W.vret hx hb hr (fun t ht hW => ⟨⟨(Bi, Ri), rfl, hfin, by rw [ht]; exact hP, va_K.moved hW.alike hK, hD⟩, hS.F ht⟩) hS.2.2 dX3_payNamedBills_124
        · -- 52 on
          rw [nI_leI (by omega) (by omega)] at c52
          have c52 : i < n := by omega
          have hk : n - i = (n - (i + 1)) + 1 := by omega
          rw [hk] at hg
          refine lv_aload_n hx hb dX3_payNamedBills_55 rfl (lv_at hl 2 rfl) ?_
          refine va_get (D := D) (ci := 3) (v := .ref (a 13)) (C := RX3) (T := TX3) (N := 4) hx hb hts (fun w h => List.mem_cons_of_mem _ (List.mem_append_left _ (List.mem_append_left _ (List.mem_append_right _ h)))) hown hK hP 0 rfl rfl 1 (by decide) (hts (.fieldLink RX3 19 "CashAllocator" "receiptBook" "LCashAllocator$ReceiptBook;") (by decide +kernel)) (fun _ h9 => h9) rfl dX3_payNamedBills_56 ?_
          refine va_get (D := D) (ci := 2) (v := .ref (a 17)) (C := RX2) (T := TX2) (N := 9) hx hb hts (fun w h => List.mem_cons_of_mem _ (List.mem_append_left _ (List.mem_append_right _ h))) hown hK hP 13 rfl rfl 3 (by decide) (hts (.fieldLink RX3 85 "CashAllocator$ReceiptBook" "unapplied" "[I") (by decide +kernel)) (fun _ h9 => h9) rfl dX3_payNamedBills_59 ?_
          refine lv_iload_n hx hb dX3_payNamedBills_62 rfl (lv_at hl 3 rfl) ?_
          refine zald hx hb hK hP 17 (n := 30) (f := (Ri 3)) rfl (rc) rfl (by omega) (by decide) dX3_payNamedBills_63 ?_
          refine lv_if_le (tgt := 124) hx hb dX3_payNamedBills_64 (by decide) (fun c64 => ?_) (fun c64 => ?_)
          · -- 64 taken
            have hfin : (Bi, Ri) = namS B R rc rf n td := by rw [hg, namL, if_pos c64]
            exact W.vret hx hb hr (fun t ht hW => ⟨⟨(Bi, Ri), rfl, hfin, by rw [ht]; exact hP, va_K.moved hW.alike hK, hD⟩, hS.F ht⟩) hS.2.2 dX3_payNamedBills_124
          · -- 64 on
            refine lv_aload_n hx hb dX3_payNamedBills_67 rfl (lv_at hl 2 rfl) ?_
            refine va_get (D := D) (ci := 3) (v := .ref (a 1)) (C := RX3) (T := TX3) (N := 4) hx hb hts (fun w h => List.mem_cons_of_mem _ (List.mem_append_left _ (List.mem_append_left _ (List.mem_append_right _ h)))) hown hK hP 0 rfl rfl 0 (by decide) (hts (.fieldLink RX3 10 "CashAllocator" "billBook" "LCashAllocator$BillBook;") (by decide +kernel)) (fun _ h9 => h9) rfl dX3_payNamedBills_68 ?_
            refine lv_iload hx hb dX3_payNamedBills_71 (lv_at hl 0 rfl) ?_
            refine lv_iload_n hx hb dX3_payNamedBills_73 rfl (lv_at hl 1 rfl) ?_
            refine zcVi (ci := 0) (q0 := 0) (wf := (fun (u : Unit) => (wCA a cI cZ Bi Ri E (td)))) ksBB ⟨hx, hb, hml, hown, hts⟩ (zwBB hP hD hS hA) hK (c_X0_isOpenFor l D cI cZ a H.size (Bi) (i) (cv) (by first | assumption | omega)) (cwV 2 hts gX3_payNamedBills_X0_isOpenFor rfl rfl rfl (by decide +kernel) ⟨Nat.le_of_ble_eq_true rfl, Nat.le_of_ble_eq_true rfl⟩) rfl rfl (by decide) (fun _ => zkBB _) rfl hl.1 rfl (Nat.le_of_ble_eq_true rfl) dX3_payNamedBills_74 ⟨Nat.le_of_ble_eq_true rfl, Nat.le_of_ble_eq_true rfl⟩ (fun r74 u H locs hw hP hD hS => ?_)
            subst hw
            refine lv_if_eq (tgt := 118) hx hb dX3_payNamedBills_77 (by decide) (fun c77 => ?_) (fun c77 => ?_)
            · -- 77 taken
              have c77 := b2_0 c77
              have hg2 : namS B R rc rf n td = namL rc rf cv td (n - (i + 1)) (i + 1) Bi Ri := by rw [hg, namL, if_neg c64, if_neg (fun z => c77 z.1)]
              refine lv_iinc (v := nI (i + 1)) (lv' := [(4, .int (nI (i + 1))), (3, .int (cv)), (0, .ref (a 0)), (1, .int (nI (rc))), (2, .int (rf))]) hx hb dX3_payNamedBills_118 hl (k := 0) rfl (nI_1 _) (by decide) rfl (fun ls hl => ?_)
              refine lv_goto (tgt := 43) hx hb dX3_payNamedBills_121 (by decide) ?_
              exact ih43 (i + 1) (Bi) (Ri) (by omega) hBi hg2 (by omega) _ _ hP hD hS _ (lv_sub hl [0, 1, 2, 3, 4] rfl)
            · -- 77 on
              have c77 := b2_1 c77
              refine lv_aload_n hx hb dX3_payNamedBills_80 rfl (lv_at hl 2 rfl) ?_
              refine va_get (D := D) (ci := 3) (v := .ref (a 1)) (C := RX3) (T := TX3) (N := 4) hx hb hts (fun w h => List.mem_cons_of_mem _ (List.mem_append_left _ (List.mem_append_left _ (List.mem_append_right _ h)))) hown hK hP 0 rfl rfl 0 (by decide) (hts (.fieldLink RX3 10 "CashAllocator" "billBook" "LCashAllocator$BillBook;") (by decide +kernel)) (fun _ h9 => h9) rfl dX3_payNamedBills_81 ?_
              refine va_get (D := D) (ci := 0) (v := .ref (a 4)) (C := RX0) (T := TX0) (N := 12) hx hb hts (fun w h => List.mem_cons_of_mem _ (List.mem_append_right _ h)) hown hK hP 1 rfl rfl 2 (by decide) (hts (.fieldLink RX3 185 "CashAllocator$BillBook" "reference" "[I") (by decide +kernel)) (fun _ h9 => h9) rfl dX3_payNamedBills_84 ?_
              refine lv_iload hx hb dX3_payNamedBills_87 (lv_at hl 0 rfl) ?_
              refine zald hx hb hK hP 4 (n := 40) (f := (Bi 2)) rfl (i) rfl (by omega) (by decide) dX3_payNamedBills_89 ?_
              refine lv_iload_n hx hb dX3_payNamedBills_90 rfl (lv_at hl 4 rfl) ?_
              refine lv_icmp_ne (tgt := 118) hx hb dX3_payNamedBills_91 (by decide) (fun c91 => ?_) (fun c91 => ?_)
              · -- 91 taken
                have hg2 : namS B R rc rf n td = namL rc rf cv td (n - (i + 1)) (i + 1) Bi Ri := by rw [hg, namL, if_neg c64, if_neg (fun z => c91 z.2)]
                refine lv_iinc (v := nI (i + 1)) (lv' := [(4, .int (nI (i + 1))), (3, .int (cv)), (0, .ref (a 0)), (1, .int (nI (rc))), (2, .int (rf))]) hx hb dX3_payNamedBills_118 hl (k := 0) rfl (nI_1 _) (by decide) rfl (fun ls hl => ?_)
                refine lv_goto (tgt := 43) hx hb dX3_payNamedBills_121 (by decide) ?_
                exact ih43 (i + 1) (Bi) (Ri) (by omega) hBi hg2 (by omega) _ _ hP hD hS _ (lv_sub hl [0, 1, 2, 3, 4] rfl)
              · -- 91 on
                refine lv_aload_n hx hb dX3_payNamedBills_94 rfl (lv_at hl 2 rfl) ?_
                refine lv_iload_n hx hb dX3_payNamedBills_95 rfl (lv_at hl 3 rfl) ?_
                refine lv_iload hx hb dX3_payNamedBills_96 (lv_at hl 0 rfl) ?_
                refine zcVi (ci := 3) (q0 := 0) (wf := (fun (u : (Nat → Nat → Int32) × (Nat → Nat → Int32)) => (wCA a cI cZ (u.1) (u.2) E (td)))) (List.range 26) ⟨hx, hb, hml, hown, hts⟩ (zwAll 26 (by decide) rfl hP hD hS hA) hK (c_X3_payBill l D cI cZ a H.size (Bi) (Ri) (E) (td) (rc) (i) (by first | assumption | omega) (by first | assumption | omega)) (cwV 2 hts gX3_payNamedBills_X3_payBill rfl rfl rfl (by decide +kernel) ⟨Nat.le_of_ble_eq_true rfl, Nat.le_of_ble_eq_true rfl⟩) rfl rfl (by decide) (fun _ => rfl) rfl hl.1 rfl (Nat.le_of_ble_eq_true rfl) dX3_payNamedBills_98 ⟨Nat.le_of_ble_eq_true rfl, Nat.le_of_ble_eq_true rfl⟩ (fun r98 u H locs hw hP hD hS => ?_)
                obtain ⟨rfl, rfl⟩ := hw
                have hP : va_P D vwCl (wCA a cI cZ (payB (Bi) (Ri) (rc) (i) (td)) (payR (Bi) (Ri) (rc) (i) (td)) E (td)) H := hP
                have hD : va_D A (wCA a cI cZ (payB (Bi) (Ri) (rc) (i) (td)) (payR (Bi) (Ri) (rc) (i) (td)) E (td)) := hD
                refine lv_istore (lv' := [(5, .int (b2 (¬ (Ri) 3 (rc) < dueN (Bi) (i) (td)))), (4, .int (nI (i))), (3, .int (cv)), (0, .ref (a 0)), (1, .int (nI (rc))), (2, .int (rf))]) hx hb dX3_payNamedBills_101 hl (by decide) rfl (fun ls hl => ?_)
                refine lv_iload hx hb dX3_payNamedBills_103 (lv_at hl 0 rfl) ?_
                refine lv_if_ne (tgt := 118) hx hb dX3_payNamedBills_105 (by decide) (fun c105 => ?_) (fun c105 => ?_)
                · -- 105 taken
                  have c105 := b2_1 c105
                  have hg2 : namS B R rc rf n td = namL rc rf cv td (n - (i + 1)) (i + 1) (payB Bi Ri rc i td) (payR Bi Ri rc i td) := by rw [hg, namL, if_neg c64, if_pos ⟨c77, c91⟩, if_pos c105]
                  refine lv_iinc (v := nI (i + 1)) (lv' := [(4, .int (nI (i + 1))), (5, .int (b2 (¬ (Ri) 3 (rc) < dueN (Bi) (i) (td)))), (3, .int (cv)), (0, .ref (a 0)), (1, .int (nI (rc))), (2, .int (rf))]) hx hb dX3_payNamedBills_118 hl (k := 1) rfl (nI_1 _) (by decide) rfl (fun ls hl => ?_)
                  refine lv_goto (tgt := 43) hx hb dX3_payNamedBills_121 (by decide) ?_
                  exact ih43 (i + 1) ((payB (Bi) (Ri) (rc) (i) (td))) ((payR (Bi) (Ri) (rc) (i) (td))) (by omega) (by rw [payB_n]; exact hBi) hg2 (by omega) _ _ hP hD hS _ (lv_sub hl [0, 2, 3, 4, 5] rfl)
                · -- 105 on
                  have c105 := b2_0 c105
                  have hg2 : namS B R rc rf n td = namL rc rf cv td (n - (i + 1)) (i + 1) (dsp (payB Bi Ri rc i td) i (nI rc)) (payR Bi Ri rc i td) := by rw [hg, namL, if_neg c64, if_pos ⟨c77, c91⟩, if_neg c105]
                  refine lv_aload_n hx hb dX3_payNamedBills_108 rfl (lv_at hl 3 rfl) ?_
                  refine va_get (D := D) (ci := 3) (v := .ref (a 1)) (C := RX3) (T := TX3) (N := 4) hx hb hts (fun w h => List.mem_cons_of_mem _ (List.mem_append_left _ (List.mem_append_left _ (List.mem_append_right _ h)))) hown hK hP 0 rfl rfl 0 (by decide) (hts (.fieldLink RX3 10 "CashAllocator" "billBook" "LCashAllocator$BillBook;") (by decide +kernel)) (fun _ h9 => h9) rfl dX3_payNamedBills_109 ?_
                  refine lv_iload hx hb dX3_payNamedBills_112 (lv_at hl 1 rfl) ?_
                  refine lv_iload_n hx hb dX3_payNamedBills_114 rfl (lv_at hl 4 rfl) ?_
                  refine zcVv (ci := 0) (q0 := 0) (wf := (fun (u : Nat → Nat → Int32) => (wCA a cI cZ u (payR (Bi) (Ri) (rc) (i) (td)) E (td)))) ksBB ⟨hx, hb, hml, hown, hts⟩ (zwBB hP hD hS hA) hK (c_X0_disputeRest l D cI cZ a H.size ((payB (Bi) (Ri) (rc) (i) (td))) (i) (nI (rc)) (by first | assumption | omega)) (cwV 2 hts gX3_payNamedBills_X0_disputeRest rfl rfl rfl (by decide +kernel) ⟨Nat.le_of_ble_eq_true rfl, Nat.le_of_ble_eq_true rfl⟩) rfl rfl (by decide) (fun _ => zkBB _) rfl hl.1 rfl (Nat.le_of_ble_eq_true rfl) dX3_payNamedBills_115 ⟨Nat.le_of_ble_eq_true rfl, Nat.le_of_ble_eq_true rfl⟩ (fun u H locs hw hP hD hS => ?_)
                  subst hw
                  have hP : va_P D vwCl (wCA a cI cZ (dsp ((payB (Bi) (Ri) (rc) (i) (td))) (i) (nI (rc))) (payR (Bi) (Ri) (rc) (i) (td)) E (td)) H := hP
                  have hD : va_D A (wCA a cI cZ (dsp ((payB (Bi) (Ri) (rc) (i) (td))) (i) (nI (rc))) (payR (Bi) (Ri) (rc) (i) (td)) E (td)) := hD
                  refine lv_iinc (v := nI (i + 1)) (lv' := [(4, .int (nI (i + 1))), (5, .int (b2 (¬ (Ri) 3 (rc) < dueN (Bi) (i) (td)))), (3, .int (cv)), (0, .ref (a 0)), (1, .int (nI (rc))), (2, .int (rf))]) hx hb dX3_payNamedBills_118 hl (k := 1) rfl (nI_1 _) (by decide) rfl (fun ls hl => ?_)
                  refine lv_goto (tgt := 43) hx hb dX3_payNamedBills_121 (by decide) ?_
                  exact ih43 (i + 1) ((dsp ((payB (Bi) (Ri) (rc) (i) (td))) (i) (nI (rc)))) ((payR (Bi) (Ri) (rc) (i) (td))) (by omega) (by rw [dsp_n, payB_n]; exact hBi) hg2 (by omega) _ _ hP hD hS _ (lv_sub hl [0, 2, 3, 4, 5] rfl)
    rw [← hcv] at hl
    exact loop43 _ (0) (B) (R1) (Nat.zero_le _) (hB) (hst) (Nat.lt_succ_self _) _ _ hP hD hS _ (lv_sub hl [0, 1, 2, 3, 4] rfl)
end
