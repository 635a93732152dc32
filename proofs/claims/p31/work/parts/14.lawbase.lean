/-! The law's own rows: two desks, calls of its own methods (which may catch), calls of a desk's methods. -/
/-- what an exception is told as, with three kinds and with two -/
def cdA (k : Nat) : Int32 := if k = 1 then -2000000001 else if k = 2 then -2000000002 else -2000000003
def cdB (k : Nat) : Int32 := if k = 1 then -2000000001 else -2000000003
/-- two desks that hold the same -/
def wCC (a g : Nat → Nat) (cI cZ : ClassId) (B R E : Nat → Nat → Int32) (td : Int32) : va_W := wCA a cI cZ B R E td ++ wCA g cI cZ B R E td
/-- a desk, and two rows of forty ints -/
def wCH (a : Nat → Nat) (cI cZ : ClassId) (B R E : Nat → Nat → Int32) (td : Int32) (qm qw : Nat) (mm ww : Nat → Int32) : va_W := wCA a cI cZ B R E td ++ [(qm, .inl (cI, 40, .inl mm)), (qw, .inl (cI, 40, .inl ww))]
/-- a desk, and a row of forty ints -/
def wCG (a : Nat → Nat) (cI cZ : ClassId) (B R E : Nat → Nat → Int32) (td : Int32) (qk : Nat) (kp : Nat → Int32) : va_W := wCA a cI cZ B R E td ++ [(qk, .inl (cI, 40, .inl kp))]
abbrev r26 : List Nat := [0, 1, 2, 3, 4, 5, 6, 7, 8, 9, 10, 11, 12, 13, 14, 15, 16, 17, 18, 19, 20, 21, 22, 23, 24, 25]
abbrev s26 : List Nat := [26, 27, 28, 29, 30, 31, 32, 33, 34, 35, 36, 37, 38, 39, 40, 41, 42, 43, 44, 45, 46, 47, 48, 49, 50, 51]
section ZLAW
variable {D : va_G} {cI cZ : ClassId} {a g : Nat → Nat} {B R E : Nat → Nat → Int32} {td : Int32} {A : Nat → Prop} {H0 H : Heap} {locs : List Loc} {qm qw qk : Nat} {mm ww kp : Nat → Int32}
theorem zwCA (hP : va_P D vwCl (wCA a cI cZ B R E td) H) (hD : va_D A (wCA a cI cZ B R E td)) (hS : va_S A H0 H locs) (hA : ∀ q, H0.size ≤ q → A q) : ZW D A H0 (wCA a cI cZ B R E td) (wCA a cI cZ B R E td) [] H locs r26 [] := ⟨hP, hD, hS, hA, by decide, rfl, (fun _ h => absurd h List.not_mem_nil), rfl, rfl⟩
theorem zwC1 (hP : va_P D vwCl (wCC a g cI cZ B R E td) H) (hD : va_D A (wCC a g cI cZ B R E td)) (hS : va_S A H0 H locs) (hA : ∀ q, H0.size ≤ q → A q) : ZW D A H0 (wCC a g cI cZ B R E td) (wCA a cI cZ B R E td) (wCA g cI cZ B R E td) H locs r26 s26 := ⟨hP, hD, hS, hA, by decide, by decide, by decide, rfl, rfl⟩
theorem zwC2 (hP : va_P D vwCl (wCC a g cI cZ B R E td) H) (hD : va_D A (wCC a g cI cZ B R E td)) (hS : va_S A H0 H locs) (hA : ∀ q, H0.size ≤ q → A q) : ZW D A H0 (wCC a g cI cZ B R E td) (wCA g cI cZ B R E td) (wCA a cI cZ B R E td) H locs s26 r26 := ⟨hP, hD, hS, hA, by decide, by decide, by decide, rfl, rfl⟩
theorem zwCH (hP : va_P D vwCl (wCH a cI cZ B R E td qm qw mm ww) H) (hD : va_D A (wCH a cI cZ B R E td qm qw mm ww)) (hS : va_S A H0 H locs) (hA : ∀ q, H0.size ≤ q → A q) : ZW D A H0 (wCH a cI cZ B R E td qm qw mm ww) (wCA a cI cZ B R E td) [(qm, .inl (cI, 40, .inl mm)), (qw, .inl (cI, 40, .inl ww))] H locs r26 [26, 27] := ⟨hP, hD, hS, hA, by decide, by decide, by decide, rfl, rfl⟩
theorem zwCG (hP : va_P D vwCl (wCG a cI cZ B R E td qk kp) H) (hD : va_D A (wCG a cI cZ B R E td qk kp)) (hS : va_S A H0 H locs) (hA : ∀ q, H0.size ≤ q → A q) : ZW D A H0 (wCG a cI cZ B R E td qk kp) (wCA a cI cZ B R E td) [(qk, .inl (cI, 40, .inl kp))] H locs r26 [26] := ⟨hP, hD, hS, hA, by decide, by decide, by decide, rfl, rfl⟩
end ZLAW
abbrev kCA : List Nat := r26
abbrev kC1 : List Nat := s26 ++ r26
abbrev kC2 : List Nat := r26 ++ s26
abbrev kCH : List Nat := [2, 3, 4, 5, 6, 7, 8, 9, 10, 11, 12, 13, 14, 15, 16, 17, 18, 19, 20, 21, 22, 23, 24, 25, 26, 27, 0, 1]
abbrev kCG : List Nat := [1, 2, 3, 4, 5, 6, 7, 8, 9, 10, 11, 12, 13, 14, 15, 16, 17, 18, 19, 20, 21, 22, 23, 24, 25, 26, 0]
section ZKR
variable {p : Program} {l : Launch} {e : Env} {R : Room} {s : State} {m : MethodId} {args : Array Value} {below : List Frame} {meth : Method} {c : Code} {H : Heap} {locs : List Loc} {cells slots : Nat} {Q : State → Prop}
variable {y : MethodName} {bytes cc : ByteArray} {maxL nL mc ms n index : Nat} {ret : Option FieldType} {hh : List (Nat × Nat × Nat × Nat)} {wsy : List Cond} {rm : Room} {Ts : List Cond} {own C : String} {b : Addr} {As rest st0 : List Value} {pc : Nat} {ls : Array Slot}
variable {D : va_G} {cI cZ : ClassId} {ws wc wr : va_W} {A : Nat → Prop} {H0 : Heap}
/-- a call of an own method of the law that catches -/
theorem zcW {S : Type} {post : Int32 → S → Prop} {w1 wf : S → va_W} {isC isR : List Nat} (ks : List Nat) (F : CallFix p m c cc nL s args Ts own) (z : ZW D A s.heap ws wc wr H locs isC isR) (hK : va_K D vwCl (tyl cI cZ) s) (hX : ExB s) (hZ : ExZ A s s.heap)
    (hM : Met l y wsy rm (va_Pc As (PreX D cI cZ wc H.size)) (va_Qi post (fun u => PostW D cI cZ (va_A wc H.size) (w1 u)) (va_A wc H.size)) mc ms (va_A wc H.size))
    (cw : vx_CSW R s args own index y bytes maxL ret hh wsy rm mc ms n)
    (hk2 : va_nd ks = true) (hks : ∀ u, ks.map (fun i => (wr ++ w1 u)[i]?) = (wf u).map some)
    (hn : As.length = n) (hl : ls.size = nL) (hst : st0 = As.reverse ++ rest) (hroom : (rest.map fun v => v.category).sum ≤ 8) (hdg : decode cc pc = .ok (.invokestatic index, 3)) (hf : cells + mc ≤ R.cells ∧ slots + ms ≤ R.slots)
    (kk : ∀ (r : Int32) (u : S) (H1 : Heap) (locs1 : List Loc), post r u → va_P D vwCl (wf u) H1 → va_D A (wf u) → va_S A s.heap H1 locs1 → W p l e R s m args below meth c H1 locs1 (cells + mc) (slots + ms) Q (F0 m (pc + 3) ls (.int r :: rest))) : W p l e R s m args below meth c H locs cells slots Q (F0 m pc ls st0) := by
  subst hst
  refine va_calli (vx_runSW (rest := rest) F hM cw ⟨PreX.blind, fun U hU hW => ⟨rfl, zx_pre z hK hX hZ hU hW⟩⟩ rfl hn hl rfl (lv_room hroom) hdg hf) z.2.2.1 (fun q _ h => zw_free z q h) (zw_free z) (fun r u t H1 locs1 ht hvm hw hB hz1 hk1 hS => ?_)
  obtain ⟨hP1, hK1, hD1⟩ := hB
  rw [ht] at hP1
  obtain ⟨h1, h2⟩ := wj z.1 z.2.1 isC isR ks z.2.2.2.2.2.2.2.1 z.2.2.2.2.2.2.2.2 z.2.2.2.2.2.1 z.2.2.2.2.2.2.1 hk2 (hks u) hk1 (zw_free z) hP1 hD1
  exact kk r u H1 locs1 hw h1 h2 hS
/-- .. and that catches nothing -/
theorem zcN {S : Type} {post : Int32 → S → Prop} {w1 wf : S → va_W} {isC isR : List Nat} (ks : List Nat) (F : CallFix p m c cc nL s args Ts own) (z : ZW D A s.heap ws wc wr H locs isC isR) (hK : va_K D vwCl (tyl cI cZ) s) (hX : ExB s) (hZ : ExZ A s s.heap)
    (hM : Met l y wsy rm (va_Pc As (PreX D cI cZ wc H.size)) (va_Qi post (fun u => PostW D cI cZ (va_A wc H.size) (w1 u)) (va_A wc H.size)) mc ms (va_A wc H.size))
    (cw : CallB R s args own index y bytes maxL ret wsy rm mc ms n ∧ (Cond.static y).before args s = true)
    (hk2 : va_nd ks = true) (hks : ∀ u, ks.map (fun i => (wr ++ w1 u)[i]?) = (wf u).map some)
    (hn : As.length = n) (hl : ls.size = nL) (hst : st0 = As.reverse ++ rest) (hroom : (rest.map fun v => v.category).sum ≤ 8) (hdg : decode cc pc = .ok (.invokestatic index, 3)) (hf : cells + mc ≤ R.cells ∧ slots + ms ≤ R.slots)
    (kk : ∀ (r : Int32) (u : S) (H1 : Heap) (locs1 : List Loc), post r u → va_P D vwCl (wf u) H1 → va_D A (wf u) → va_S A s.heap H1 locs1 → W p l e R s m args below meth c H1 locs1 (cells + mc) (slots + ms) Q (F0 m (pc + 3) ls (.int r :: rest))) : W p l e R s m args below meth c H locs cells slots Q (F0 m pc ls st0) := by
  subst hst
  refine va_calli (va_runS (rest := rest) F hM cw ⟨PreX.blind, fun U hU hW => ⟨rfl, zx_pre z hK hX hZ hU hW⟩⟩ rfl hn hl rfl (lv_room hroom) hdg hf) z.2.2.1 (fun q _ h => zw_free z q h) (zw_free z) (fun r u t H1 locs1 ht hvm hw hB hz1 hk1 hS => ?_)
  obtain ⟨hP1, hK1, hD1⟩ := hB
  rw [ht] at hP1
  obtain ⟨h1, h2⟩ := wj z.1 z.2.1 isC isR ks z.2.2.2.2.2.2.2.1 z.2.2.2.2.2.2.2.2 z.2.2.2.2.2.1 z.2.2.2.2.2.2.1 hk2 (hks u) hk1 (zw_free z) hP1 hD1
  exact kk r u H1 locs1 hw h1 h2 hS
/-- a call that catches, answers v and leaves the world -/
theorem zkW {v : Int32} {isC isR : List Nat} (ks : List Nat) (F : CallFix p m c cc nL s args Ts own) (z : ZW D A s.heap ws wc wr H locs isC isR) (hK : va_K D vwCl (tyl cI cZ) s) (hX : ExB s) (hZ : ExZ A s s.heap)
    (hM : Met l y wsy rm (va_Pc As (PreX D cI cZ wc H.size)) (va_Qi (fun (r : Int32) (_ : Unit) => r = v) (fun (_ : Unit) => PostW D cI cZ (va_A wc H.size) wc) (va_A wc H.size)) mc ms (va_A wc H.size))
    (cw : vx_CSW R s args own index y bytes maxL ret hh wsy rm mc ms n)
    (hk2 : va_nd ks = true) (hks : ks.map (fun i => (wr ++ wc)[i]?) = ws.map some)
    (hn : As.length = n) (hl : ls.size = nL) (hst : st0 = As.reverse ++ rest) (hroom : (rest.map fun v => v.category).sum ≤ 8) (hdg : decode cc pc = .ok (.invokestatic index, 3)) (hf : cells + mc ≤ R.cells ∧ slots + ms ≤ R.slots)
    (kk : ∀ (H1 : Heap) (locs1 : List Loc), va_P D vwCl ws H1 → va_D A ws → va_S A s.heap H1 locs1 → W p l e R s m args below meth c H1 locs1 (cells + mc) (slots + ms) Q (F0 m (pc + 3) ls (.int v :: rest))) : W p l e R s m args below meth c H locs cells slots Q (F0 m pc ls st0) :=
  zcW (wf := fun _ => ws) ks F z hK hX hZ hM cw hk2 (fun _ => hks) hn hl hst hroom hdg hf fun r _ H1 locs1 hw h1 h2 hS => by subst hw; exact kk H1 locs1 h1 h2 hS
/-- a call of a desk's method that answers v and leaves the world -/
theorem zkV {v : Int32} {isC isR : List Nat} (ks : List Nat) {ci q0 : Nat} {q : vw_C} {fs : List Value} (F : CallFix p m c cc nL s args Ts own) (z : ZW D A H0 ws wc wr H locs isC isR) (hK : va_K D vwCl (tyl cI cZ) s)
    (hM : Met l y wsy rm (va_Pc (.ref b :: As) (PreW D cI cZ wc H.size)) (va_Qi (fun (r : Int32) (_ : Unit) => r = v) (fun (_ : Unit) => PostW D cI cZ (va_A wc H.size) wc) (va_A wc H.size)) mc ms (va_A wc H.size))
    (cw : CallW R s args own q.1 index y bytes maxL ret wsy rm mc ms n) (hc : vwCl[ci]? = some q) (he : wc[q0]? = some (b, .inr (ci, fs)))
    (hk2 : va_nd ks = true) (hks : ks.map (fun i => (wr ++ wc)[i]?) = ws.map some)
    (hn : As.length = n) (hl : ls.size = nL) (hst : st0 = As.reverse ++ .ref b :: rest) (hroom : (rest.map fun v => v.category).sum ≤ 8) (hdg : decode cc pc = .ok (.invokevirtual index, 3)) (hf : cells + mc ≤ R.cells ∧ slots + ms ≤ R.slots)
    (kk : ∀ (H1 : Heap) (locs1 : List Loc), va_P D vwCl ws H1 → va_D A ws → va_S A H0 H1 locs1 → W p l e R s m args below meth c H1 locs1 (cells + mc) (slots + ms) Q (F0 m (pc + 3) ls (.int v :: rest))) : W p l e R s m args below meth c H locs cells slots Q (F0 m pc ls st0) :=
  zcVi (wf := fun _ => ws) ks F z hK hM cw hc he hk2 (fun _ => hks) hn hl hst hroom hdg hf fun r _ H1 locs1 hw h1 h2 hS => by subst hw; exact kk H1 locs1 h1 h2 hS
/-- a row of the world, read by an index that is an int -/
theorem lv_rem (hexec : p.tables.exec = Jvm.exec) (hb : c.code = cc) {x d : Nat} {v w : Int32} (hv : v = nI x) (hw : w = nI d) (hdg : decode cc pc = .ok (.irem, 1)) (hx : x < 2 ^ 31) (h0 : 0 < d) (hd : d < 2 ^ 31)
    (k : W p l e R s m args below meth c H locs cells slots Q (F0 m (pc + 1) ls (.int (nI (x % d)) :: rest))) : W p l e R s m args below meth c H locs cells slots Q (F0 m pc ls (.int w :: .int v :: rest)) := by
  subst hv hw
  exact lv_irem hexec hb hdg (nI_ne0 h0 hd) (by rw [pk_rem hx h0 hd]; exact k)
theorem lv_quo (hexec : p.tables.exec = Jvm.exec) (hb : c.code = cc) {x d : Nat} {v w : Int32} (hv : v = nI x) (hw : w = nI d) (hdg : decode cc pc = .ok (.idiv, 1)) (hx : x < 2 ^ 31) (h0 : 0 < d) (hd : d < 2 ^ 31)
    (k : W p l e R s m args below meth c H locs cells slots Q (F0 m (pc + 1) ls (.int (nI (x / d)) :: rest))) : W p l e R s m args below meth c H locs cells slots Q (F0 m pc ls (.int w :: .int v :: rest)) := by
  subst hv hw
  exact lv_idiv hexec hb hdg (nI_ne0 h0 hd) (by rw [pk_div hx h0 hd]; exact k)
theorem lv_sum (hexec : p.tables.exec = Jvm.exec) (hb : c.code = cc) {x d : Nat} {v w : Int32} (hv : v = nI x) (hw : w = nI d) (hdg : decode cc pc = .ok (.iadd, 1))
    (k : W p l e R s m args below meth c H locs cells slots Q (F0 m (pc + 1) ls (.int (nI (x + d)) :: rest))) : W p l e R s m args below meth c H locs cells slots Q (F0 m pc ls (.int w :: .int v :: rest)) := by
  subst hv hw
  exact lv_iadd hexec hb hdg (by rw [nI_add]; exact k)
theorem lv_prod (hexec : p.tables.exec = Jvm.exec) (hb : c.code = cc) {x d : Nat} {v w : Int32} (hv : v = nI x) (hw : w = nI d) (hdg : decode cc pc = .ok (.imul, 1))
    (k : W p l e R s m args below meth c H locs cells slots Q (F0 m (pc + 1) ls (.int (nI (x * d)) :: rest))) : W p l e R s m args below meth c H locs cells slots Q (F0 m pc ls (.int w :: .int v :: rest)) := by
  subst hv hw
  exact lv_imul hexec hb hdg (by rw [pk_mul]; exact k)
end ZKR
