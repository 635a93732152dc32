/-! Exceptions: what a start that may throw holds beside its world, and a throw and a throwing call as one row each. -/
abbrev eI : String := "java/lang/IndexOutOfBoundsException"
abbrev eA : String := "java/lang/IllegalArgumentException"
abbrev eS : String := "java/lang/IllegalStateException"
abbrev eNm : List String := ["java/lang/RuntimeException", "java/lang/Exception"]
def exD : List Cond := [.declares (Bundle.initS "java/lang/RuntimeException"), .declares (Bundle.initS "java/lang/Exception"), .declares (Bundle.initS Bundle.tN)]
def exC : List Cond := [.castable eI eI, .castable eA eA, .castable eS eS]
def exT : List (Nat × String) := [(48, "no more bills can be made"), (62, "no more receipts can come"), (83, "the receipt has a customer"), (88, "the receipt has no customer"), (90, "nothing of the receipt is unapplied"), (99, "something of the receipt was paid back"), (123, "nothing of the bill is disputed"), (147, "no such place in a set"), (152, "the sum is below 1"), (215, "no such customer"), (217, "no such bill"), (219, "no such receipt"), (221, "the receipt has bounced"), (223, "an argument is out of range")]
/-- the tables' words for a throw that no list of words carries -/
def ExB (U : State) : Prop := ((va_Nw (.declares (Bundle.initS "java/lang/RuntimeException")) U ∧ va_Nw (.declares (Bundle.initS "java/lang/Exception")) U ∧ va_Nw (.declares (Bundle.initS Bundle.tN)) U) ∧ va_Nw (.castable eI eI) U ∧ va_Nw (.castable eA eA) U ∧ va_Nw (.castable eS eS) U) ∧ (∀ k ∈ exT, ∃ sa, vk_R RX3 k.1 k.2 sa U) ∧ va_Nc eA eI U ∧ va_Nc eS eI U ∧ va_Nc eS eA U
def ExZ (A : Nat → Prop) (U : State) (H : Heap) : Prop := vx_Zq Bundle.tN "UNASSIGNED_STACK" Bundle.steD A U H ∧ vx_Zq Bundle.tN "SUPPRESSED_SENTINEL" Bundle.listD A U H
theorem ExB.warm {s U : State} (hW : s.WarmedH U.vm) (h : ExB s) : ExB U := by
  obtain ⟨⟨⟨a1, a2, a3⟩, a4, a5, a6⟩, b, c1, c2, c3⟩ := h
  exact ⟨⟨⟨va_Nw.warmD hW a1, va_Nw.warmD hW a2, va_Nw.warmD hW a3⟩, va_Nw.warmC hW a4, va_Nw.warmC hW a5, va_Nw.warmC hW a6⟩, fun k hk => (b k hk).imp fun sa h => vk_R.warm hW h, c1.moved hW.alike, c2.moved hW.alike, c3.moved hW.alike⟩
theorem ExB.same {u U : State} (hv : u.vm = U.vm) (h : ExB u) : ExB U := by
  obtain ⟨⟨⟨a1, a2, a3⟩, a4, a5, a6⟩, b, c1, c2, c3⟩ := h
  have hal : u.vm.Alike U.vm := by rw [hv]; exact Vm.Alike.refl _
  exact ⟨⟨⟨a1.same rfl hv, a2.same rfl hv, a3.same rfl hv⟩, a4.same rfl hv, a5.same rfl hv, a6.same rfl hv⟩, fun k hk => (b k hk).imp fun sa h => vk_R.same hv.symm h, c1.moved hal, c2.moved hal, c3.moved hal⟩
theorem ExZ.go {A B : Nat → Prop} {u U : State} {H H1 : Heap} (h : ExZ A u H) (hvm : u.vm.Alike U.vm) (hq : ∀ a : Nat, a < H.size → ¬ A a → H1[a]? = H[a]?) (hAB : ∀ q, B q → A q) : ExZ B U H1 := ⟨((vx_Zq.moved hvm h.1).kept hq).narrow hAB, ((vx_Zq.moved hvm h.2).kept hq).narrow hAB⟩
def PreX (D : va_G) (cI cZ : ClassId) (WS : va_W) (sz : Nat) (U : State) : Prop := PreW D cI cZ WS sz U ∧ ExB U ∧ ExZ (va_A WS sz) U U.heap
theorem PreX.blind {D : va_G} {cI cZ : ClassId} {WS : va_W} {sz : Nat} {av : List Value} : FrameBlind (va_Pc av (PreX D cI cZ WS sz)) := fun a U g mk q => by
  obtain ⟨q0, q1, q2, q3⟩ := q
  exact ⟨q0, (PreW.blind (av := av) a U g mk ⟨q0, q1⟩).2, q2.same rfl, q3.go (Vm.Alike.refl U.vm) (fun _ _ _ => rfl) (fun _ h => h)⟩
/-- a throw of E0 leaves the world as it was -/
abbrev XCw (D : va_G) (cI cZ : ClassId) (A : Nat → Prop) (WS : va_W) (E0 : String) : String → State → State → Prop := vx_X (fun (_ : Unit) => True) (fun E _ t => E = E0 ∧ PostW D cI cZ A WS t) A
abbrev QNo (A : Nat → Prop) : Array Value → State → Outcome → State → Prop := va_Qv (fun (_ : Unit) => False) (fun _ _ => True) A
theorem hgI : ∀ w ∈ Cond.classLink RX3 145 eI :: Cond.initialized eI :: vx_atS RX3 149 eI eNm, vx_ot w = true := by decide +kernel
theorem hgA : ∀ w ∈ Cond.classLink RX3 150 eA :: Cond.initialized eA :: vx_atS RX3 154 eA eNm, vx_ot w = true := by decide +kernel
theorem hgS : ∀ w ∈ Cond.classLink RX3 46 eS :: Cond.initialized eS :: vx_atS RX3 50 eS eNm, vx_ot w = true := by decide +kernel
theorem hbI : ∀ w ∈ (vx_atS RX3 149 eI eNm).filter (fun w => !goodWord w), w ∈ exD ++ exC := by decide +kernel
theorem hbA : ∀ w ∈ (vx_atS RX3 154 eA eNm).filter (fun w => !goodWord w), w ∈ exD ++ exC := by decide +kernel
theorem hbS : ∀ w ∈ (vx_atS RX3 50 eS eNm).filter (fun w => !goodWord w), w ∈ exD ++ exC := by decide +kernel
theorem ExB.words {s : State} (h : ExB s) {args : Array Value} : ∀ w ∈ exD ++ exC, w.before args s = true := by
  obtain ⟨⟨⟨a1, a2, a3⟩, a4, a5, a6⟩, -⟩ := h
  exact vx_c (a1.use rfl) (vx_c (a2.use rfl) (vx_c (a3.use rfl) (vx_c (a4.use rfl) (vx_c (a5.use rfl) (vx_c (a6.use rfl) vx_n)))))
section ZX
variable {p : Program} {l : Launch} {e : Env} {R : Room} {s : State} {m : MethodId} {args : Array Value} {below : List Frame} {meth : Method} {c : Code} {H : Heap} {locs : List Loc} {cells slots : Nat} {Q : State → Prop}
variable {y : MethodName} {bytes cc : ByteArray} {maxL nL mc ms n index : Nat} {ret : Option FieldType} {wsy : List Cond} {rm : Room} {Ts : List Cond} {own C : String} {b : Addr} {As rest st0 : List Value} {pc : Nat} {ls : Array Slot}
variable {D : va_G} {cI cZ : ClassId} {ws wc wr wf0 : va_W} {A : Nat → Prop} {H0 : Heap}
/-- throw new E(text) -/
theorem zthrow (hexec : p.tables.exec = Jvm.exec) (hb : c.code = cc) (hl : l.stackTraces = false) {cls text E0 : String} {ik is ic : Nat} (hfit : Bundle.fit cls = true) (hstr : (is, text) ∈ exT) (hE : cls = E0) (hown : s.vm.findClass RX3 = some m.cls)
    (hk : (Cond.classLink RX3 ik cls).before args s = true) (hini : (Cond.initialized cls).before args s = true) (hat : ∀ w ∈ (vx_atS RX3 ic cls eNm).filter goodWord, w.before args s = true)
    (hg : ∀ w ∈ Cond.classLink RX3 ik cls :: Cond.initialized cls :: vx_atS RX3 ic cls eNm, vx_ot w = true) (hbd : ∀ w ∈ (vx_atS RX3 ic cls eNm).filter (fun w => !goodWord w), w ∈ exD ++ exC)
    (hX : ExB s) (hZ : ExZ A s s.heap) (hK : va_K D vwCl (tyl cI cZ) s) (hP : va_P D vwCl ws H) (hD : va_D A ws) (hS : va_S A s.heap H locs) (hsize : ls.size = nL) (hml : c.maxLocals = nL)
    (d0 : decode cc pc = .ok (.new ik, 3)) (d3 : decode cc (pc + 3) = .ok (.dup, 1)) (hd : (decode cc (pc + 4) = .ok (.ldc is, 2) ∧ decode cc (pc + 6) = .ok (.invokespecial ic, 3) ∧ decode cc (pc + 9) = .ok (.athrow, 1)))
    (ht : ∀ x ∈ c.exceptionTable.toList, False) (hRf : 6 ≤ R.frames) (hRl : (rest.map fun v => v.category).sum + 82 ≤ R.locals) (hRc : cells + 1 ≤ R.cells ∧ slots + 6 ≤ R.slots) (hlocks : meth.locks = false) (hc : cells + 1 ≤ mc) (hs : slots + 6 ≤ ms) :
    W p l e R s m args below meth c H locs cells slots (vx_MQ below (QNo A) (XCw D cI cZ A ws E0) args s mc ms A) (F0 m pc ls rest) := by
  obtain ⟨sa, hR⟩ := hX.2.1 _ hstr
  subst hE
  refine vx_throwS hexec hb hl (names := eNm) hown hfit (by decide) hk hini hR (vx_hat hat hbd hX.words) hg hZ.1 hZ.2 hS (hsize.trans hml.symm) d0 d3 hd.1 hd.2.1 hd.2.2 (fun x hx => absurd (ht x hx) id) (by show 5 < R.frames; omega) (by show _ + 82 ≤ R.locals; exact hRl) hRc.1 hRc.2 hlocks (fun t hvm hz hq => ⟨(), trivial, ⟨rfl, ?_, va_K.moved hvm hK, hD⟩, ?_⟩) hS.2.2 hc hs
  · exact hP.kept fun k q h => hq q.1 (vx_lt hP h)
  · exact ⟨Nat.le_trans hS.1 hz, fun q h1 h2 => by rw [hq q (Nat.lt_of_lt_of_le h1 hS.1)]; exact hS.2.1 q h1 h2⟩
/-- a start of a callee that may throw -/
theorem zx_pre {isC isR : List Nat} (z : ZW D A s.heap ws wc wr H locs isC isR) (hK : va_K D vwCl (tyl cI cZ) s) (hX : ExB s) (hZ : ExZ A s s.heap) {U : State} (hU : U.heap = H) (hW : s.WarmedH U.vm) : PreX D cI cZ wc H.size U :=
  ⟨zw_pre z hK hU hW, hX.warm hW, by rw [hU]; exact hZ.go hW.alike z.2.2.1.2.1 (zw_free z)⟩
/-- a call that throws, virtual -/
theorem zxV {isC isR : List Nat} (ks : List Nat) {ci q0 : Nat} {q : vw_C} {fs : List Value} {E0 : String} (F : CallFix p m c cc nL s args Ts own) (z : ZW D A s.heap ws wc wr H locs isC isR) (hK : va_K D vwCl (tyl cI cZ) s) (hX : ExB s) (hZ : ExZ A s s.heap)
    (hM : vx_Met l y wsy rm (va_Pc (.ref b :: As) (PreX D cI cZ wc H.size)) (QNo (va_A wc H.size)) (XCw D cI cZ (va_A wc H.size) wc E0) 1 6 (va_A wc H.size))
    (cw : CallW R s args own q.1 index y bytes maxL ret wsy rm 1 6 n) (hc : vwCl[ci]? = some q) (he : wc[q0]? = some (b, .inr (ci, fs)))
    (hk2 : va_nd ks = true) (hks : ks.map (fun i => (wr ++ wc)[i]?) = ws.map some)
    (hn : As.length = n) (hl : ls.size = nL) (hst : st0 = As.reverse ++ .ref b :: rest) (hroom : (rest.map fun v => v.category).sum ≤ 8) (hdg : decode cc pc = .ok (.invokevirtual index, 3)) (hf : cells + 1 ≤ R.cells ∧ slots + 6 ≤ R.slots)
    (kx : ∀ (ce : Cell) (q9 : Addr) (H1 : Heap) (locs1 : List Loc), va_P D vwCl ws H1 → va_D A ws → va_S A s.heap H1 locs1 → H1[q9]? = some ce → ce.vm = .none → s.vm.findClass E0 = some ce.cls → vx_W p l e R s m args below meth c H1 locs1 (cells + 1) (slots + 6) Q (F0 m pc ls rest) q9) :
    W p l e R s m args below meth c H locs cells slots Q (F0 m pc ls st0) := by
  subst hst
  refine vx_callv (vx_runV (rest := rest) F hM cw ⟨PreX.blind, zw_recv z hK hc he, fun U hU hW => ⟨rfl, zx_pre z hK hX hZ hU hW⟩⟩ rfl hn hl rfl (lv_room hroom) hdg hf) z.2.2.1 (fun q _ h => zw_free z q h) (zw_free z) (fun q _ h => zw_free z q h) (fun E ce q9 u t H1 locs1 ht hvm hp hB hz1 hk1 hS hce hcv hcl => ?_) (fun u t H1 locs1 ht hvm hw => absurd hw id)
  obtain ⟨rfl, hP1, hK1, hD1⟩ := hB
  rw [ht] at hP1
  obtain ⟨h1, h2⟩ := wj z.1 z.2.1 isC isR ks z.2.2.2.2.2.2.2.1 z.2.2.2.2.2.2.2.2 z.2.2.2.2.2.1 z.2.2.2.2.2.2.1 hk2 hks hk1 (zw_free z) hP1 hD1
  exact kx ce q9 H1 locs1 h1 h2 hS hce hcv hcl
/-- a call that throws, static -/
theorem zxS {isC isR : List Nat} (ks : List Nat) {E0 : String} (F : CallFix p m c cc nL s args Ts own) (z : ZW D A s.heap ws wc wr H locs isC isR) (hK : va_K D vwCl (tyl cI cZ) s) (hX : ExB s) (hZ : ExZ A s s.heap)
    (hM : vx_Met l y wsy rm (va_Pc As (PreX D cI cZ wc H.size)) (QNo (va_A wc H.size)) (XCw D cI cZ (va_A wc H.size) wc E0) 1 6 (va_A wc H.size))
    (cw : CallB R s args own index y bytes maxL ret wsy rm 1 6 n ∧ (Cond.static y).before args s = true)
    (hk2 : va_nd ks = true) (hks : ks.map (fun i => (wr ++ wc)[i]?) = ws.map some)
    (hn : As.length = n) (hl : ls.size = nL) (hst : st0 = As.reverse ++ rest) (hroom : (rest.map fun v => v.category).sum ≤ 8) (hdg : decode cc pc = .ok (.invokestatic index, 3)) (hf : cells + 1 ≤ R.cells ∧ slots + 6 ≤ R.slots)
    (kx : ∀ (ce : Cell) (q9 : Addr) (H1 : Heap) (locs1 : List Loc), va_P D vwCl ws H1 → va_D A ws → va_S A s.heap H1 locs1 → H1[q9]? = some ce → ce.vm = .none → s.vm.findClass E0 = some ce.cls → vx_W p l e R s m args below meth c H1 locs1 (cells + 1) (slots + 6) Q (F0 m pc ls rest) q9) :
    W p l e R s m args below meth c H locs cells slots Q (F0 m pc ls st0) := by
  subst hst
  refine vx_callv (vx_runS (rest := rest) F hM cw ⟨PreX.blind, fun U hU hW => ⟨rfl, zx_pre z hK hX hZ hU hW⟩⟩ rfl hn hl rfl (lv_room hroom) hdg hf) z.2.2.1 (fun q _ h => zw_free z q h) (zw_free z) (fun q _ h => zw_free z q h) (fun E ce q9 u t H1 locs1 ht hvm hp hB hz1 hk1 hS hce hcv hcl => ?_) (fun u t H1 locs1 ht hvm hw => absurd hw id)
  obtain ⟨rfl, hP1, hK1, hD1⟩ := hB
  rw [ht] at hP1
  obtain ⟨h1, h2⟩ := wj z.1 z.2.1 isC isR ks z.2.2.2.2.2.2.2.1 z.2.2.2.2.2.2.2.2 z.2.2.2.2.2.1 z.2.2.2.2.2.2.1 hk2 hks hk1 (zw_free z) hP1 hD1
  exact kx ce q9 H1 locs1 h1 h2 hS hce hcv hcl
/-- it goes on to the caller -/
theorem zxo {E0 E1 : String} (hE : E1 = E0) (hK : va_K D vwCl (tyl cI cZ) s) (ht : ∀ x ∈ c.exceptionTable.toList, False) (hlocks : meth.locks = false) (hc : cells ≤ mc) (hs : slots ≤ ms) (ce : Cell) (q9 : Addr) (H1 : Heap) (locs1 : List Loc) (hP : va_P D vwCl ws H1) (hD : va_D A ws) (hS : va_S A s.heap H1 locs1) (hce : H1[q9]? = some ce) (hcv : ce.vm = .none) (hcl : s.vm.findClass E1 = some ce.cls) :
    vx_W p l e R s m args below meth c H1 locs1 cells slots (vx_MQ below (QNo A) (XCw D cI cZ A ws E0) args s mc ms A) (F0 m pc ls rest) q9 := by
  subst hE
  exact vx_out (fun x hx => absurd (ht x hx) id) hlocks hce hcv hcl (fun t h1 h2 => ⟨(), trivial, ⟨rfl, by rw [h1]; exact hP, va_K.moved h2 hK, hD⟩, hS.F h1⟩) hS.2.2 hc hs
end ZX
