/-! The law's world: the class and the law's row of one long (27 cells), then the reference (21 cells). -/
def wLM (a g : Nat → Nat) (cI cZ cL : ClassId) (B R E : Nat → Nat → Int32) (td : Int32) (oo : Nat → Int64) (M : Nat → Nat → Int32) : va_W := wL a cI cZ cL B R E td oo ++ wM g cI cZ M
abbrev isLL : List Nat := [0, 1, 2, 3, 4, 5, 6, 7, 8, 9, 10, 11, 12, 13, 14, 15, 16, 17, 18, 19, 20, 21, 22, 23, 24, 25, 26]
abbrev isMM : List Nat := [27, 28, 29, 30, 31, 32, 33, 34, 35, 36, 37, 38, 39, 40, 41, 42, 43, 44, 45, 46, 47]
abbrev isCC : List Nat := [0, 1, 2, 3, 4, 5, 6, 7, 8, 9, 10, 11, 12, 13, 14, 15, 16, 17, 18, 19, 20, 21, 22, 23, 24, 25]
abbrev ksLL : List Nat := [21, 22, 23, 24, 25, 26, 27, 28, 29, 30, 31, 32, 33, 34, 35, 36, 37, 38, 39, 40, 41, 42, 43, 44, 45, 46, 47, 0, 1, 2, 3, 4, 5, 6, 7, 8, 9, 10, 11, 12, 13, 14, 15, 16, 17, 18, 19, 20]
abbrev ksMM : List Nat := [0, 1, 2, 3, 4, 5, 6, 7, 8, 9, 10, 11, 12, 13, 14, 15, 16, 17, 18, 19, 20, 21, 22, 23, 24, 25, 26, 27, 28, 29, 30, 31, 32, 33, 34, 35, 36, 37, 38, 39, 40, 41, 42, 43, 44, 45, 46, 47]
abbrev ksCC : List Nat := [22, 23, 24, 25, 26, 27, 28, 29, 30, 31, 32, 33, 34, 35, 36, 37, 38, 39, 40, 41, 42, 43, 44, 45, 46, 47, 0, 1, 2, 3, 4, 5, 6, 7, 8, 9, 10, 11, 12, 13, 14, 15, 16, 17, 18, 19, 20, 21]
def rCC (a g : Nat → Nat) (cI cZ cL : ClassId) (oo : Nat → Int64) (M : Nat → Nat → Int32) : va_W := (a 26, .inl (cL, 1, .inr (.inl oo))) :: wM g cI cZ M
section ZLM
variable {D : va_G} {cI cZ cL : ClassId} {a g : Nat → Nat} {B R E M : Nat → Nat → Int32} {td : Int32} {oo : Nat → Int64} {A : Nat → Prop} {H0 H : Heap} {locs : List Loc}
theorem zwLL (hP : va_P D vwCl (wLM a g cI cZ cL B R E td oo M) H) (hD : va_D A (wLM a g cI cZ cL B R E td oo M)) (hS : va_S A H0 H locs) (hA : ∀ q, H0.size ≤ q → A q) : ZW D A H0 (wLM a g cI cZ cL B R E td oo M) (wL a cI cZ cL B R E td oo) (wM g cI cZ M) H locs isLL isMM := ⟨hP, hD, hS, hA, by decide, by decide, by decide, rfl, rfl⟩
theorem zkLL (B' R' E' : Nat → Nat → Int32) (td' : Int32) (oo' : Nat → Int64) : ksLL.map (fun i => (wM g cI cZ M ++ wL a cI cZ cL B' R' E' td' oo')[i]?) = (wLM a g cI cZ cL B' R' E' td' oo' M).map some := rfl
theorem zwMM (hP : va_P D vwCl (wLM a g cI cZ cL B R E td oo M) H) (hD : va_D A (wLM a g cI cZ cL B R E td oo M)) (hS : va_S A H0 H locs) (hA : ∀ q, H0.size ≤ q → A q) : ZW D A H0 (wLM a g cI cZ cL B R E td oo M) (wM g cI cZ M) (wL a cI cZ cL B R E td oo) H locs isMM isLL := ⟨hP, hD, hS, hA, by decide, by decide, by decide, rfl, rfl⟩
theorem zkMM (M' : Nat → Nat → Int32) : ksMM.map (fun i => (wL a cI cZ cL B R E td oo ++ wM g cI cZ M')[i]?) = (wLM a g cI cZ cL B R E td oo M').map some := rfl
theorem zwCC (hP : va_P D vwCl (wLM a g cI cZ cL B R E td oo M) H) (hD : va_D A (wLM a g cI cZ cL B R E td oo M)) (hS : va_S A H0 H locs) (hA : ∀ q, H0.size ≤ q → A q) : ZW D A H0 (wLM a g cI cZ cL B R E td oo M) (wCA a cI cZ B R E td) (rCC a g cI cZ cL oo M) H locs isCC (26 :: isMM) := ⟨hP, hD, hS, hA, by decide, by decide, by decide, rfl, rfl⟩
theorem zkCC (B' R' E' : Nat → Nat → Int32) (td' : Int32) : ksCC.map (fun i => (rCC a g cI cZ cL oo M ++ wCA a cI cZ B' R' E' td')[i]?) = (wLM a g cI cZ cL B' R' E' td' oo M).map some := rfl
end ZLM
section ZSL
variable {p : Program} {l : Launch} {e : Env} {R : Room} {s : State} {m : MethodId} {args : Array Value} {below : List Frame} {meth : Method} {c : Code} {H : Heap} {locs : List Loc} {cells slots : Nat} {Q : State → Prop}
variable {y : MethodName} {bytes cc : ByteArray} {maxL nL mc ms n index : Nat} {ret : Option FieldType} {hh : List (Nat × Nat × Nat × Nat)} {wsy : List Cond} {rm : Room} {Ts : List Cond} {own : String} {As rest st0 : List Value} {pc : Nat} {ls : Array Slot}
variable {D : va_G} {cI cZ cL : ClassId} {ws wc wr : va_W} {A : Nat → Prop}
theorem zl_pre {isC isR : List Nat} (z : ZW D A s.heap ws wc wr H locs isC isR) (hK : va_K D vwCl (tyl3 cI cZ cL) s) (hX : ExB s) (hZ : ExZ A s s.heap) {U : State} (hU : U.heap = H) (hW : s.WarmedH U.vm) : PreL D cI cZ cL wc H.size U :=
  ⟨⟨by rw [hU], by rw [hU]; exact z.1.sub isC (fm_of z.2.2.2.2.2.2.2.1), va_K.moved hW.alike hK, (z.2.1.sub isC z.2.2.2.2.1 z.2.2.2.2.2.2.2.1).weaken (fun _ _ _ _ => trivial)⟩, hX.warm hW, by rw [hU]; exact hZ.go hW.alike z.2.2.1.2.1 (zw_free z)⟩
/-- the law's call of one of its own methods, which may catch -/
theorem zcSL {S : Type} {post : Int32 → S → Prop} {w1 wf : S → va_W} {isC isR : List Nat} (ks : List Nat) (F : CallFix p m c cc nL s args Ts own) (z : ZW D A s.heap ws wc wr H locs isC isR) (hK : va_K D vwCl (tyl3 cI cZ cL) s) (hX : ExB s) (hZ : ExZ A s s.heap)
    (hM : Met l y wsy rm (va_Pc As (PreL D cI cZ cL wc H.size)) (va_Qi post (fun u => PostL D cI cZ cL (va_A wc H.size) (w1 u)) (va_A wc H.size)) mc ms (va_A wc H.size))
    (cw : vx_CSW R s args own index y bytes maxL ret hh wsy rm mc ms n)
    (hk2 : va_nd ks = true) (hks : ∀ u, ks.map (fun i => (wr ++ w1 u)[i]?) = (wf u).map some)
    (hn : As.length = n) (hl : ls.size = nL) (hst : st0 = As.reverse ++ rest) (hroom : (rest.map fun v => v.category).sum ≤ 8) (hdg : decode cc pc = .ok (.invokestatic index, 3)) (hf : cells + mc ≤ R.cells ∧ slots + ms ≤ R.slots)
    (kk : ∀ (r : Int32) (u : S) (H1 : Heap) (locs1 : List Loc), post r u → va_P D vwCl (wf u) H1 → va_D A (wf u) → va_S A s.heap H1 locs1 → W p l e R s m args below meth c H1 locs1 (cells + mc) (slots + ms) Q (F0 m (pc + 3) ls (.int r :: rest))) : W p l e R s m args below meth c H locs cells slots Q (F0 m pc ls st0) := by
  subst hst
  refine va_calli (vx_runSW (rest := rest) F hM cw ⟨PreL.blind, fun U hU hW => ⟨rfl, zl_pre z hK hX hZ hU hW⟩⟩ rfl hn hl rfl (lv_room hroom) hdg hf) z.2.2.1 (fun q _ h => zw_free z q h) (zw_free z) (fun r u t H1 locs1 ht hvm hw hB hz1 hk1 hS => ?_)
  obtain ⟨hP1, hK1, hD1⟩ := hB
  rw [ht] at hP1
  obtain ⟨h1, h2⟩ := wj z.1 z.2.1 isC isR ks z.2.2.2.2.2.2.2.1 z.2.2.2.2.2.2.2.2 z.2.2.2.2.2.1 z.2.2.2.2.2.2.1 hk2 (hks u) hk1 (zw_free z) hP1 hD1
  exact kk r u H1 locs1 hw h1 h2 hS
end ZSL
