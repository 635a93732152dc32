section LWA
variable {p : Program} {l : Launch} {e : Env} {R : Room} {s : State} {m : MethodId} {args : Array Value} {below : List Frame} {meth : Method} {c : Code} {H : Heap} {locs : List Loc} {cells slots : Nat} {Q : State → Prop}
variable {pc : Nat} {ls : Array Slot} {rest : List Value} {D : va_G} {A : Nat → Prop} {a g : Nat → Nat} {cI cZ cL : ClassId} {B C E M : Nat → Nat → Int32} {td : Int32} {oo : Nat → Int64} {b L i : Nat} {xs : Nat → Int32}
/-- an argument of the call at the place i of the script -/
theorem arg_ld {lv : List (Nat × Value)} {n : Int} {v : Int32} (hx : p.tables.exec = Jvm.exec) (hb : c.code = cL_law) (hl : lv_has ls 7 lv) (k0 k4 : Nat) (h0 : lv[k0]? = some (0, .ref b)) (h4 : lv[k4]? = some (4, .int (nI i))) (j : Nat) (hi : i + 6 ≤ L) (hL : L ≤ 3072) (hX : va_X b L xs s s.heap) (hbl : b < s.heap.size) (hbA : ¬ A b) (hS : va_S A s.heap H locs) (hj : j < 6) (hv : v = nI j)
    (d0 : decode cL_law pc = .ok (.aload_n 0, 1)) (d1 : decode cL_law (pc + 1) = .ok (.iload 4, 2)) (d3 : decode cL_law (pc + 3) = .ok (.iconst n, 1)) (hn : Int32.ofInt n = v) (d4 : decode cL_law (pc + 4) = .ok (.iadd, 1)) (d5 : decode cL_law (pc + 5) = .ok (.iaload, 1))
    (kk : W p l e R s m args below meth c H locs cells slots Q (F0 m (pc + 6) ls (.int (xs (i + j)) :: rest))) : W p l e R s m args below meth c H locs cells slots Q (F0 m pc ls rest) := by
  refine lv_aload_n hx hb d0 rfl (lv_at hl k0 h0) ?_
  refine lv_iload hx hb d1 (lv_at hl k4 h4) ?_
  refine lv_iconst (v := v) hx hb d3 hn ?_
  refine lv_iadd hx hb d4 ?_
  rw [hv, nI_add]
  refine va_sld hx hb hX hbl hbA hS (vp_in_nI (n := i + j) (N := L) (by omega) (by omega)) d5 ?_
  rw [nI_clamp (by omega)]
  exact kk
/-- the answers are compared, at the end of a case -/
theorem lw_tail {r5 r6 : Int32} (hx : p.tables.exec = Jvm.exec) (hb : c.code = cL_law) (hml : c.maxLocals = 7) (hown : s.vm.findClass RL = some m.cls) (hts : ∀ w ∈ wsL_law, w.before args s = true) (hK3 : va_K D vwCl (tyl3 cI cZ cL) s) (hA : ∀ q, s.heap.size ≤ q → A q)
    (hP : va_P D vwCl (wLM a g cI cZ cL B C E td oo M) H) (hD : va_D A (wLM a g cI cZ cL B C E td oo M)) (hS : va_S A s.heap H locs) (hR : 1 ≤ R.frames ∧ 30 ≤ R.locals) (hcs : cells ≤ R.cells ∧ slots ≤ R.slots)
    (hl : lv_has ls 7 [(6, .int r6), (5, .int r5), (0, .ref b), (1, .ref (a 0)), (2, .ref (g 0)), (3, .ref (a 26)), (4, .int (nI i))]) (e5 : M 0 0 = r5) (e6 : r5 = 0 → oo 0 = r6.toInt64) {o28 : Int} {tgt : Nat}
    (d0 : decode cL_law pc = .ok (.aload_n 2, 1)) (d1 : decode cL_law (pc + 1) = .ok (.invokevirtual 91, 3)) (d4 : decode cL_law (pc + 4) = .ok (.iload 5, 2)) (d6 : decode cL_law (pc + 6) = .ok (.if_icmp .eq 5, 3)) (d11 : decode cL_law (pc + 11) = .ok (.iload 5, 2)) (d13 : decode cL_law (pc + 13) = .ok (.ifCond .ne 15, 3))
    (d16 : decode cL_law (pc + 16) = .ok (.aload_n 3, 1)) (d17 : decode cL_law (pc + 17) = .ok (.iconst 0, 1)) (d18 : decode cL_law (pc + 18) = .ok (.laload, 1)) (d19 : decode cL_law (pc + 19) = .ok (.iload 6, 2)) (d21 : decode cL_law (pc + 21) = .ok (.i2l, 1)) (d22 : decode cL_law (pc + 22) = .ok (.lcmp, 1)) (d23 : decode cL_law (pc + 23) = .ok (.ifCond .eq 5, 3)) (d28 : decode cL_law (pc + 28) = .ok (.goto o28, 3)) (ht : ((pc + 28 : Nat) : Int) + o28 = (tgt : Int))
    (kk : ∀ (H1 : Heap) (locs1 : List Loc), va_P D vwCl (wLM a g cI cZ cL B C E td oo M) H1 → va_D A (wLM a g cI cZ cL B C E td oo M) → va_S A s.heap H1 locs1 → W p l e R s m args below meth c H1 locs1 cells slots Q (F0 m tgt ls [])) : W p l e R s m args below meth c H locs cells slots Q (F0 m pc ls []) := by
  have hK : va_K D vwCl (tyl cI cZ) s := hK3.sub (tys' := tyl cI cZ) [0, 1] rfl
  refine lv_aload_n hx hb d0 rfl (lv_at hl 4 rfl) ?_
  refine zcVi (ci := 4) (q0 := 0) (wf := fun (_ : Unit) => wLM a g cI cZ cL B C E td oo M) ksMM ⟨hx, hb, hml, hown, hts⟩ (zwMM hP hD hS hA) hK (c_X4_thrown l D cI cZ g H.size M) (cwV 0 hts gL_law_X4_thrown rfl rfl rfl (by decide +kernel) ⟨hR.1, Nat.le_trans (by decide) hR.2⟩) rfl rfl (by decide) (fun _ => rfl) rfl hl.1 rfl (Nat.le_of_ble_eq_true rfl) d1 ⟨hcs.1, hcs.2⟩ (fun r u H locs hw hP hD hS => ?_)
  have hw : r = M 0 0 := hw
  rw [hw, e5]
  refine lv_iload hx hb d4 (lv_at hl 1 rfl) ?_
  refine lv_icmp_eq (tgt := pc + 11) hx hb d6 (by omega) (fun _ => ?_) (fun z => absurd rfl z)
  refine lv_iload hx hb d11 (lv_at hl 1 rfl) ?_
  refine lv_if_ne (tgt := pc + 28) hx hb d13 (by omega) (fun z => ?_) (fun z => ?_)
  · exact lv_goto (tgt := tgt) hx hb d28 ht (kk H locs hP hD hS)
  · refine lv_aload_n hx hb d16 rfl (lv_at hl 5 rfl) ?_
    refine lv_iconst (v := 0) hx hb d17 (by decide) ?_
    refine zlld hx hb hK3 hP 26 rfl d18 ?_
    refine lv_iload hx hb d19 (lv_at hl 0 rfl) ?_
    refine lv_i2l (v := r6.toInt64) hx hb d21 rfl ?_
    rw [e6 z]
    refine W.lcmp hx hb d22 ?_
    refine lv_if_eq (tgt := pc + 28) hx hb d23 (by omega) (fun _ => ?_) (fun z => absurd ((lg_cmp_eq _ _).mpr rfl) z)
    exact lv_goto (tgt := tgt) hx hb d28 ht (kk H locs hP hD hS)
end LWA
