/-! The law's world: two desks, and two rows of forty ints. -/
def wLW (a g : Nat → Nat) (cI cZ : ClassId) (B R E : TBL) (td : Int32) (C S G : TBL) (te : Int32) (qm qw : Nat) (mm ww : Nat → Int32) : va_W := wCA a cI cZ B R E td ++ (wCA g cI cZ C S G te ++ [(qm, .inl (cI, 40, .inl mm)), (qw, .inl (cI, 40, .inl ww))])
abbrev t28 : List Nat := [28, 29, 30, 31, 32, 33, 34, 35, 36, 37, 38, 39, 40, 41, 42, 43, 44, 45, 46, 47, 48, 49, 50, 51, 52, 53]
abbrev kL1 : List Nat := t28 ++ (r26 ++ [26, 27])
abbrev kL2 : List Nat := r26 ++ (t28 ++ [26, 27])
abbrev kL3 : List Nat := [2, 3, 4, 5, 6, 7, 8, 9, 10, 11, 12, 13, 14, 15, 16, 17, 18, 19, 20, 21, 22, 23, 24, 25, 26, 27] ++ (t28 ++ [0, 1])
abbrev kL4 : List Nat := r26 ++ (s26 ++ [52, 53])
abbrev kL5 : List Nat := s26 ++ (r26 ++ [52, 53])
abbrev rL1 (g : Nat → Nat) (cI cZ : ClassId) (C S G : TBL) (te : Int32) (qm qw : Nat) (mm ww : Nat → Int32) : va_W := wCA g cI cZ C S G te ++ [(qm, .inl (cI, 40, .inl mm)), (qw, .inl (cI, 40, .inl ww))]
section ZLWW
variable {D : va_G} {cI cZ : ClassId} {a g : Nat → Nat} {B R E C S G : TBL} {td te : Int32} {A : Nat → Prop} {H0 H : Heap} {locs : List Loc} {qm qw : Nat} {mm ww : Nat → Int32}
theorem zL1 (hP : va_P D vwCl (wLW a g cI cZ B R E td C S G te qm qw mm ww) H) (hD : va_D A (wLW a g cI cZ B R E td C S G te qm qw mm ww)) (hS : va_S A H0 H locs) (hA : ∀ q, H0.size ≤ q → A q) : ZW D A H0 (wLW a g cI cZ B R E td C S G te qm qw mm ww) (wCA a cI cZ B R E td) (rL1 g cI cZ C S G te qm qw mm ww) H locs r26 (s26 ++ [52, 53]) := ⟨hP, hD, hS, hA, by decide, by decide, by decide, rfl, rfl⟩
theorem zL2 (hP : va_P D vwCl (wLW a g cI cZ B R E td C S G te qm qw mm ww) H) (hD : va_D A (wLW a g cI cZ B R E td C S G te qm qw mm ww)) (hS : va_S A H0 H locs) (hA : ∀ q, H0.size ≤ q → A q) : ZW D A H0 (wLW a g cI cZ B R E td C S G te qm qw mm ww) (wCA g cI cZ C S G te) (rL1 a cI cZ B R E td qm qw mm ww) H locs s26 (r26 ++ [52, 53]) := ⟨hP, hD, hS, hA, by decide, by decide, by decide, rfl, rfl⟩
theorem zL3 (hP : va_P D vwCl (wLW a g cI cZ B R E td B R E td qm qw mm ww) H) (hD : va_D A (wLW a g cI cZ B R E td B R E td qm qw mm ww)) (hS : va_S A H0 H locs) (hA : ∀ q, H0.size ≤ q → A q) : ZW D A H0 (wLW a g cI cZ B R E td B R E td qm qw mm ww) (wCC a g cI cZ B R E td) [(qm, .inl (cI, 40, .inl mm)), (qw, .inl (cI, 40, .inl ww))] H locs (r26 ++ s26) [52, 53] := ⟨hP, hD, hS, hA, by decide, by decide, by decide, rfl, rfl⟩
theorem zL4 (hP : va_P D vwCl (wLW a g cI cZ B R E td C S G te qm qw mm ww) H) (hD : va_D A (wLW a g cI cZ B R E td C S G te qm qw mm ww)) (hS : va_S A H0 H locs) (hA : ∀ q, H0.size ≤ q → A q) : ZW D A H0 (wLW a g cI cZ B R E td C S G te qm qw mm ww) (wCH g cI cZ C S G te qm qw mm ww) (wCA a cI cZ B R E td) H locs (s26 ++ [52, 53]) r26 := ⟨hP, hD, hS, hA, by decide, by decide, by decide, rfl, rfl⟩
theorem zL5 (hP : va_P D vwCl (wLW a g cI cZ B R E td C S G te qm qw mm ww) H) (hD : va_D A (wLW a g cI cZ B R E td C S G te qm qw mm ww)) (hS : va_S A H0 H locs) (hA : ∀ q, H0.size ≤ q → A q) : ZW D A H0 (wLW a g cI cZ B R E td C S G te qm qw mm ww) (wCH a cI cZ B R E td qm qw mm ww) (wCA g cI cZ C S G te) H locs (r26 ++ [52, 53]) s26 := ⟨hP, hD, hS, hA, by decide, by decide, by decide, rfl, rfl⟩
end ZLWW
section ZLD
variable {p : Program} {l : Launch} {e : Env} {R : Room} {s : State} {m : MethodId} {args : Array Value} {below : List Frame} {meth : Method} {c : Code} {H : Heap} {locs : List Loc} {cells slots : Nat} {Q : State → Prop}
variable {y : MethodName} {bytes cc : ByteArray} {maxL nL mc ms n index : Nat} {ret : Option FieldType} {wsy : List Cond} {rm : Room} {Ts : List Cond} {own : String} {As rest st0 : List Value} {pc : Nat} {ls : Array Slot}
variable {D : va_G} {cI cZ : ClassId} {ws wc wr : va_W} {A : Nat → Prop}
/-- a call that answers v and leaves the world -/
theorem zkN {v : Int32} {isC isR : List Nat} (ks : List Nat) (F : CallFix p m c cc nL s args Ts own) (z : ZW D A s.heap ws wc wr H locs isC isR) (hK : va_K D vwCl (tyl cI cZ) s) (hX : ExB s) (hZ : ExZ A s s.heap)
    (hM : Met l y wsy rm (va_Pc As (PreX D cI cZ wc H.size)) (va_Qi (fun (r : Int32) (_ : Unit) => r = v) (fun (_ : Unit) => PostW D cI cZ (va_A wc H.size) wc) (va_A wc H.size)) mc ms (va_A wc H.size))
    (cw : CallB R s args own index y bytes maxL ret wsy rm mc ms n ∧ (Cond.static y).before args s = true)
    (hk2 : va_nd ks = true) (hks : ks.map (fun i => (wr ++ wc)[i]?) = ws.map some)
    (hn : As.length = n) (hl : ls.size = nL) (hst : st0 = As.reverse ++ rest) (hroom : (rest.map fun v => v.category).sum ≤ 8) (hdg : decode cc pc = .ok (.invokestatic index, 3)) (hf : cells + mc ≤ R.cells ∧ slots + ms ≤ R.slots)
    (kk : ∀ (H1 : Heap) (locs1 : List Loc), va_P D vwCl ws H1 → va_D A ws → va_S A s.heap H1 locs1 → W p l e R s m args below meth c H1 locs1 (cells + mc) (slots + ms) Q (F0 m (pc + 3) ls (.int v :: rest))) : W p l e R s m args below meth c H locs cells slots Q (F0 m pc ls st0) :=
  zcN (wf := fun _ => ws) ks F z hK hX hZ hM cw hk2 (fun _ => hks) hn hl hst hroom hdg hf fun r _ H1 locs1 hw h1 h2 hS => by subst hw; exact kk H1 locs1 h1 h2 hS
/-- the script is read by a method of the law's -/
theorem zkD {v : Int32} {b L : Nat} {xs : Nat → Int32} (F : CallFix p m c cc nL s args Ts own) (hP : va_P D vwCl ws H) (hD : va_D A ws) (hS : va_S A s.heap H locs) (hA : ∀ q, s.heap.size ≤ q → A q) (hK : va_K D vwCl (tyl cI cZ) s) (hSc : va_X b L xs s s.heap) (hbl : b < s.heap.size) (hbA : ¬ A b) (k : Nat)
    (hk1 : va_nd (List.range k) = true) (hk2 : (List.range k).map (fun i => ws[i]?) = ws.map some)
    (hM : Met l y wsy rm (va_Pc As (PreD D cI cZ b L xs H.size)) (va_Qi (fun (r : Int32) (_ : Unit) => r = v) (fun (_ : Unit) => PostW D cI cZ (va_A ([] : va_W) H.size) ([] : va_W)) (va_A ([] : va_W) H.size)) mc ms (va_A ([] : va_W) H.size))
    (cw : CallB R s args own index y bytes maxL ret wsy rm mc ms n ∧ (Cond.static y).before args s = true)
    (hn : As.length = n) (hl : ls.size = nL) (hst : st0 = As.reverse ++ rest) (hroom : (rest.map fun v => v.category).sum ≤ 8) (hdg : decode cc pc = .ok (.invokestatic index, 3)) (hf : cells + mc ≤ R.cells ∧ slots + ms ≤ R.slots)
    (kk : ∀ (H1 : Heap) (locs1 : List Loc), va_P D vwCl ws H1 → va_D A ws → va_S A s.heap H1 locs1 → W p l e R s m args below meth c H1 locs1 (cells + mc) (slots + ms) Q (F0 m (pc + 3) ls (.int v :: rest))) : W p l e R s m args below meth c H locs cells slots Q (F0 m pc ls st0) := by
  subst hst
  have z := zwNo k hk1 hk2 hP hD hS hA
  have hbH : b < H.size := Nat.lt_of_lt_of_le hbl hS.1
  refine va_calli (va_runS (rest := rest) F hM cw ⟨PreD.blind, fun U hU hW => ⟨rfl, zw_pre z hK hU hW, va_X.moved hW.alike (by rw [hU]; exact hSc.kept (hS.2.1 b hbl hbA)), hbH⟩⟩ rfl hn hl rfl (lv_room hroom) hdg hf) z.2.2.1 (fun q _ h => zw_free z q h) (zw_free z) (fun r u t H1 locs1 ht hvm hw hB hz1 hk1' hS1 => ?_)
  subst hw
  obtain ⟨hP1, hK1, hD1⟩ := hB
  rw [ht] at hP1
  obtain ⟨h1, h2⟩ := wj (wf := ws) z.1 z.2.1 [] (List.range k) (List.range k) z.2.2.2.2.2.2.2.1 z.2.2.2.2.2.2.2.2 z.2.2.2.2.2.1 z.2.2.2.2.2.2.1 hk1 (by rw [List.append_nil]; exact hk2) hk1' (zw_free z) hP1 hD1
  exact kk H1 locs1 h1 h2 hS1
end ZLD
/-- what the law's calls ask of a desk -/
theorem inv_ref {B R : TBL} {n q : Nat} {mm ww : Nat → Int32} (h : Inv B R n q mm ww) : B 11 0 = nI n ∧ n ≤ 40 ∧ R 8 0 = nI q ∧ q ≤ 30 ∧ (∀ j, j < q → R 5 j = 0 ∨ R 5 j = 1) ∧ (∀ j, j < q → R 0 j = -1 ∨ ¬ R 0 j < 0) ∧ (∀ j, j < q → ¬ R 3 j < 0) ∧ (∀ i, i < n → ¬ B 8 i < 0) ∧ ∀ j, R 7 j = 0 ∨ R 7 j = 1 := by
  obtain ⟨⟨b1, b2, b3, b4⟩, ⟨r1, r2, r3, r4, r5⟩, hx, hs⟩ := h
  refine ⟨b1, b2, r1, r2, fun j hj => (r4 j hj).1, fun j hj => ?_, fun j hj => ?_, fun i hi => ?_, r3⟩
  · have h1 := (r4 j hj).2.1
    by_cases h2 : (R 0 j).toInt = -1
    · exact Or.inl (eqI (by rw [h2, im1]))
    · refine Or.inr fun z => ?_
      rw [ltI, i0] at z
      omega
  · intro z
    have h1 := (r4 j hj).2.2.2.2.2.2.1
    rw [ltI, i0] at z
    omega
  · intro z
    have h1 := (b4 i (by omega)).2.2.1
    rw [ltI, i0] at z
    omega
