/-! The ways of this proof: what a contract says of a world, and one row for a call. -/
/-- a table of columns: column k, place i -/
def pt (F : Nat → Nat → Int32) (k i : Nat) (x : Int32) : Nat → Nat → Int32 := fun j => if j = k then upd (F k) i x else F j
theorem pt_s {F : Nat → Nat → Int32} {k i : Nat} {x : Int32} : pt F k i x k i = x := by simp [pt, upd]
theorem pt_o {F : Nat → Nat → Int32} {k i k' i' : Nat} {x : Int32} (h : ¬ (k' = k ∧ i' = i)) : pt F k i x k' i' = F k' i' := by
  unfold pt
  by_cases e : k' = k
  · subst e
    by_cases e2 : i' = i
    · exact absurd ⟨rfl, e2⟩ h
    · simp [upd, e2]
  · simp [e]
theorem pt_at (F : Nat → Nat → Int32) (k i k' i' : Nat) (x : Int32) : pt F k i x k' i' = if k' = k ∧ i' = i then x else F k' i' := by
  by_cases e : k' = k ∧ i' = i
  · obtain ⟨rfl, rfl⟩ := e
    simp [pt_s]
  · rw [pt_o e, if_neg e]
abbrev tyl (cI cZ : ClassId) : List (ClassId × FieldType) := [(cI, .int), (cZ, .boolean)]
/-- a start over the world WS, of a heap of sz cells -/
def PreW (D : va_G) (cI cZ : ClassId) (WS : va_W) (sz : Nat) (U : State) : Prop := U.heap.size = sz ∧ va_P D vwCl WS U.heap ∧ va_K D vwCl (tyl cI cZ) U ∧ va_D (fun _ => True) WS
/-- an end over the world WS -/
def PostW (D : va_G) (cI cZ : ClassId) (A : Nat → Prop) (WS : va_W) (t : State) : Prop := va_P D vwCl WS t.heap ∧ va_K D vwCl (tyl cI cZ) t ∧ va_D A WS
theorem PreW.blind {D : va_G} {cI cZ : ClassId} {WS : va_W} {sz : Nat} {av : List Value} : FrameBlind (va_Pc av (PreW D cI cZ WS sz)) := fun a U g mk q => by
  obtain ⟨q0, q1, q2, q3, q4⟩ := q
  exact ⟨q0, q1, q2, va_K.moved (u := U) (U := U.calling g mk a) (Vm.Alike.refl U.vm) q3, q4⟩
theorem fm_of {α β : Type} {f : α → Option β} : ∀ {is : List α} {l : List β}, is.map f = l.map some → is.filterMap f = l
  | [], [], _ => rfl
  | [], _ :: _, h => by cases h
  | _ :: _, [], h => by cases h
  | i :: is, x :: l, h => by
    simp only [List.map_cons, List.cons.injEq] at h
    rw [List.filterMap_cons, h.1, fm_of h.2]
/-- how a world wf is put together again: wr beside what the callee left, in the order of ks -/
theorem wj {A0 : Nat → Prop} {D : va_G} {ws wc wr w1 wf : va_W} {H H1 : Heap} (hP : va_P D vwCl ws H) (hD : va_D A0 ws) (isC isR ks : List Nat) (hC : isC.map (fun i => ws[i]?) = wc.map some) (hR : isR.map (fun i => ws[i]?) = wr.map some) (hn : va_nd isR = true) (hdis : ∀ i ∈ isR, i ∉ isC) (hk2 : va_nd ks = true) (hks : ks.map (fun i => (wr ++ w1)[i]?) = wf.map some)
    (hk : ∀ q : Nat, q < H.size → ¬ va_A wc H.size q → H1[q]? = H[q]?) (hF : ∀ q, va_A wc H.size q → A0 q) (hP1 : va_P D vwCl w1 H1) (hD1 : va_D (va_A wc H.size) w1) : va_P D vwCl wf H1 ∧ va_D A0 wf := by
  obtain ⟨h1, h2⟩ := va_join hP hD isC isR hC hR hn hdis hk hF hP1 hD1
  exact ⟨h1.sub ks (fm_of hks), h2.sub ks hk2 hks⟩
section ZC
variable {p : Program} {l : Launch} {e : Env} {R : Room} {s : State} {m : MethodId} {args : Array Value} {below : List Frame} {meth : Method} {c : Code} {H : Heap} {locs : List Loc} {cells slots : Nat} {Q : State → Prop}
variable {y : MethodName} {bytes cc : ByteArray} {maxL nL mc ms n index : Nat} {ret : Option FieldType} {wsy : List Cond} {rm : Room} {Ts : List Cond} {own C : String} {b : Addr} {As rest st0 : List Value} {pc : Nat} {ls : Array Slot}
variable {D : va_G} {cI cZ : ClassId} {ws wc wr wf0 : va_W} {A : Nat → Prop} {H0 : Heap}
/-- the world that a call gets, and that it gives back -/
abbrev ZW (D : va_G) (A : Nat → Prop) (H0 : Heap) (ws wc wr : va_W) (H : Heap) (locs : List Loc) (isC isR : List Nat) : Prop :=
  va_P D vwCl ws H ∧ va_D A ws ∧ va_S A H0 H locs ∧ (∀ q, H0.size ≤ q → A q) ∧ va_nd isC = true ∧ va_nd isR = true ∧ (∀ i ∈ isR, i ∉ isC) ∧ isC.map (fun i => ws[i]?) = wc.map some ∧ isR.map (fun i => ws[i]?) = wr.map some
theorem zw_free {isC isR : List Nat} (z : ZW D A H0 ws wc wr H locs isC isR) : ∀ q, va_A wc H.size q → A q := va_free z.2.1 z.2.2.1 z.2.2.2.1 isC z.2.2.2.2.2.2.2.1
theorem zw_pre {isC isR : List Nat} (z : ZW D A H0 ws wc wr H locs isC isR) (hK : va_K D vwCl (tyl cI cZ) s) {U : State} (hU : U.heap = H) (hW : s.WarmedH U.vm) : PreW D cI cZ wc H.size U :=
  ⟨by rw [hU], by rw [hU]; exact z.1.sub isC (fm_of z.2.2.2.2.2.2.2.1), va_K.moved hW.alike hK, (z.2.1.sub isC z.2.2.2.2.1 z.2.2.2.2.2.2.2.1).weaken (fun _ _ _ _ => trivial)⟩
theorem zw_recv {isC isR : List Nat} (z : ZW D A H0 ws wc wr H locs isC isR) (hK : va_K D vwCl (tyl cI cZ) s) {ci q0 : Nat} {q : vw_C} {fs : List Value} (hc : vwCl[ci]? = some q) (he : wc[q0]? = some (b, .inr (ci, fs))) : ∃ cell : Cell, H[b]? = some cell ∧ cell.vm.isStatics = false ∧ s.vm.findClass q.1 = some cell.cls :=
  va_recv hK (z.1.sub isC (fm_of z.2.2.2.2.2.2.2.1)) hc he
/-- a call of an own method that answers an int -/
theorem zcVi {S : Type} {post : Int32 → S → Prop} {w1 wf : S → va_W} {isC isR : List Nat} (ks : List Nat) {ci q0 : Nat} {q : vw_C} {fs : List Value} (F : CallFix p m c cc nL s args Ts own) (z : ZW D A H0 ws wc wr H locs isC isR) (hK : va_K D vwCl (tyl cI cZ) s)
    (hM : Met l y wsy rm (va_Pc (.ref b :: As) (PreW D cI cZ wc H.size)) (va_Qi post (fun u => PostW D cI cZ (va_A wc H.size) (w1 u)) (va_A wc H.size)) mc ms (va_A wc H.size))
    (cw : CallW R s args own q.1 index y bytes maxL ret wsy rm mc ms n) (hc : vwCl[ci]? = some q) (he : wc[q0]? = some (b, .inr (ci, fs)))
    (hk2 : va_nd ks = true) (hks : ∀ u, ks.map (fun i => (wr ++ w1 u)[i]?) = (wf u).map some)
    (hn : As.length = n) (hl : ls.size = nL) (hst : st0 = As.reverse ++ .ref b :: rest) (hroom : (rest.map fun v => v.category).sum ≤ 8) (hdg : decode cc pc = .ok (.invokevirtual index, 3)) (hf : cells + mc ≤ R.cells ∧ slots + ms ≤ R.slots)
    (kk : ∀ (r : Int32) (u : S) (H1 : Heap) (locs1 : List Loc), post r u → va_P D vwCl (wf u) H1 → va_D A (wf u) → va_S A H0 H1 locs1 → W p l e R s m args below meth c H1 locs1 (cells + mc) (slots + ms) Q (F0 m (pc + 3) ls (.int r :: rest))) : W p l e R s m args below meth c H locs cells slots Q (F0 m pc ls st0) := by
  subst hst
  refine va_calli (va_runV (rest := rest) F hM cw ⟨PreW.blind, zw_recv z hK hc he, fun U hU hW => ⟨rfl, zw_pre z hK hU hW⟩⟩ rfl hn hl rfl (lv_room hroom) hdg hf) z.2.2.1 (fun q _ h => zw_free z q h) (zw_free z) (fun r u t H1 locs1 ht hvm hw hB hz1 hk1 hS => ?_)
  obtain ⟨hP1, hK1, hD1⟩ := hB
  rw [ht] at hP1
  obtain ⟨h1, h2⟩ := wj z.1 z.2.1 isC isR ks z.2.2.2.2.2.2.2.1 z.2.2.2.2.2.2.2.2 z.2.2.2.2.2.1 z.2.2.2.2.2.2.1 hk2 (hks u) hk1 (zw_free z) hP1 hD1
  exact kk r u H1 locs1 hw h1 h2 hS
theorem zcVv {S : Type} {post : S → Prop} {w1 wf : S → va_W} {isC isR : List Nat} (ks : List Nat) {ci q0 : Nat} {q : vw_C} {fs : List Value} (F : CallFix p m c cc nL s args Ts own) (z : ZW D A H0 ws wc wr H locs isC isR) (hK : va_K D vwCl (tyl cI cZ) s)
    (hM : Met l y wsy rm (va_Pc (.ref b :: As) (PreW D cI cZ wc H.size)) (va_Qv post (fun u => PostW D cI cZ (va_A wc H.size) (w1 u)) (va_A wc H.size)) mc ms (va_A wc H.size))
    (cw : CallW R s args own q.1 index y bytes maxL ret wsy rm mc ms n) (hc : vwCl[ci]? = some q) (he : wc[q0]? = some (b, .inr (ci, fs)))
    (hk2 : va_nd ks = true) (hks : ∀ u, ks.map (fun i => (wr ++ w1 u)[i]?) = (wf u).map some)
    (hn : As.length = n) (hl : ls.size = nL) (hst : st0 = As.reverse ++ .ref b :: rest) (hroom : (rest.map fun v => v.category).sum ≤ 8) (hdg : decode cc pc = .ok (.invokevirtual index, 3)) (hf : cells + mc ≤ R.cells ∧ slots + ms ≤ R.slots)
    (kk : ∀ (u : S) (H1 : Heap) (locs1 : List Loc), post u → va_P D vwCl (wf u) H1 → va_D A (wf u) → va_S A H0 H1 locs1 → W p l e R s m args below meth c H1 locs1 (cells + mc) (slots + ms) Q (F0 m (pc + 3) ls rest)) : W p l e R s m args below meth c H locs cells slots Q (F0 m pc ls st0) := by
  subst hst
  refine va_callv (va_runV (rest := rest) F hM cw ⟨PreW.blind, zw_recv z hK hc he, fun U hU hW => ⟨rfl, zw_pre z hK hU hW⟩⟩ rfl hn hl rfl (lv_room hroom) hdg hf) z.2.2.1 (fun q _ h => zw_free z q h) (zw_free z) (fun u t H1 locs1 ht hvm hw hB hz1 hk1 hS => ?_)
  obtain ⟨hP1, hK1, hD1⟩ := hB
  rw [ht] at hP1
  obtain ⟨h1, h2⟩ := wj z.1 z.2.1 isC isR ks z.2.2.2.2.2.2.2.1 z.2.2.2.2.2.2.2.2 z.2.2.2.2.2.1 z.2.2.2.2.2.2.1 hk2 (hks u) hk1 (zw_free z) hP1 hD1
  exact kk u H1 locs1 hw h1 h2 hS
/-- a static call -/
theorem zcSi {S : Type} {post : Int32 → S → Prop} {w1 wf : S → va_W} {isC isR : List Nat} (ks : List Nat) (F : CallFix p m c cc nL s args Ts own) (z : ZW D A H0 ws wc wr H locs isC isR) (hK : va_K D vwCl (tyl cI cZ) s)
    (hM : Met l y wsy rm (va_Pc As (PreW D cI cZ wc H.size)) (va_Qi post (fun u => PostW D cI cZ (va_A wc H.size) (w1 u)) (va_A wc H.size)) mc ms (va_A wc H.size))
    (cw : CallB R s args own index y bytes maxL ret wsy rm mc ms n ∧ (Cond.static y).before args s = true)
    (hk2 : va_nd ks = true) (hks : ∀ u, ks.map (fun i => (wr ++ w1 u)[i]?) = (wf u).map some)
    (hn : As.length = n) (hl : ls.size = nL) (hst : st0 = As.reverse ++ rest) (hroom : (rest.map fun v => v.category).sum ≤ 8) (hdg : decode cc pc = .ok (.invokestatic index, 3)) (hf : cells + mc ≤ R.cells ∧ slots + ms ≤ R.slots)
    (kk : ∀ (r : Int32) (u : S) (H1 : Heap) (locs1 : List Loc), post r u → va_P D vwCl (wf u) H1 → va_D A (wf u) → va_S A H0 H1 locs1 → W p l e R s m args below meth c H1 locs1 (cells + mc) (slots + ms) Q (F0 m (pc + 3) ls (.int r :: rest))) : W p l e R s m args below meth c H locs cells slots Q (F0 m pc ls st0) := by
  subst hst
  refine va_calli (va_runS (rest := rest) F hM cw ⟨PreW.blind, fun U hU hW => ⟨rfl, zw_pre z hK hU hW⟩⟩ rfl hn hl rfl (lv_room hroom) hdg hf) z.2.2.1 (fun q _ h => zw_free z q h) (zw_free z) (fun r u t H1 locs1 ht hvm hw hB hz1 hk1 hS => ?_)
  obtain ⟨hP1, hK1, hD1⟩ := hB
  rw [ht] at hP1
  obtain ⟨h1, h2⟩ := wj z.1 z.2.1 isC isR ks z.2.2.2.2.2.2.2.1 z.2.2.2.2.2.2.2.2 z.2.2.2.2.2.1 z.2.2.2.2.2.2.1 hk2 (hks u) hk1 (zw_free z) hP1 hD1
  exact kk r u H1 locs1 hw h1 h2 hS
theorem zcSv {S : Type} {post : S → Prop} {w1 wf : S → va_W} {isC isR : List Nat} (ks : List Nat) (F : CallFix p m c cc nL s args Ts own) (z : ZW D A H0 ws wc wr H locs isC isR) (hK : va_K D vwCl (tyl cI cZ) s)
    (hM : Met l y wsy rm (va_Pc As (PreW D cI cZ wc H.size)) (va_Qv post (fun u => PostW D cI cZ (va_A wc H.size) (w1 u)) (va_A wc H.size)) mc ms (va_A wc H.size))
    (cw : CallB R s args own index y bytes maxL ret wsy rm mc ms n ∧ (Cond.static y).before args s = true)
    (hk2 : va_nd ks = true) (hks : ∀ u, ks.map (fun i => (wr ++ w1 u)[i]?) = (wf u).map some)
    (hn : As.length = n) (hl : ls.size = nL) (hst : st0 = As.reverse ++ rest) (hroom : (rest.map fun v => v.category).sum ≤ 8) (hdg : decode cc pc = .ok (.invokestatic index, 3)) (hf : cells + mc ≤ R.cells ∧ slots + ms ≤ R.slots)
    (kk : ∀ (u : S) (H1 : Heap) (locs1 : List Loc), post u → va_P D vwCl (wf u) H1 → va_D A (wf u) → va_S A H0 H1 locs1 → W p l e R s m args below meth c H1 locs1 (cells + mc) (slots + ms) Q (F0 m (pc + 3) ls rest)) : W p l e R s m args below meth c H locs cells slots Q (F0 m pc ls st0) := by
  subst hst
  refine va_callv (va_runS (rest := rest) F hM cw ⟨PreW.blind, fun U hU hW => ⟨rfl, zw_pre z hK hU hW⟩⟩ rfl hn hl rfl (lv_room hroom) hdg hf) z.2.2.1 (fun q _ h => zw_free z q h) (zw_free z) (fun u t H1 locs1 ht hvm hw hB hz1 hk1 hS => ?_)
  obtain ⟨hP1, hK1, hD1⟩ := hB
  rw [ht] at hP1
  obtain ⟨h1, h2⟩ := wj z.1 z.2.1 isC isR ks z.2.2.2.2.2.2.2.1 z.2.2.2.2.2.2.2.2 z.2.2.2.2.2.1 z.2.2.2.2.2.2.1 hk2 (hks u) hk1 (zw_free z) hP1 hD1
  exact kk u H1 locs1 hw h1 h2 hS
/-- a constructor's call -/
theorem zcIv {S : Type} {post : S → Prop} {w1 wf : S → va_W} {isC isR : List Nat} (ks : List Nat) (F : CallFix p m c cc nL s args Ts own) (z : ZW D A H0 ws wc wr H locs isC isR) (hK : va_K D vwCl (tyl cI cZ) s)
    (hM : Met l y wsy rm (va_Pc (.ref b :: As) (PreW D cI cZ wc H.size)) (va_Qv post (fun u => PostW D cI cZ (va_A wc H.size) (w1 u)) (va_A wc H.size)) mc ms (va_A wc H.size))
    (cw : CallB R s args own index y bytes maxL none wsy rm mc ms n ∧ y.name = "<init>" ∧ (Cond.instanceMethod y).before args s = true)
    (hk2 : va_nd ks = true) (hks : ∀ u, ks.map (fun i => (wr ++ w1 u)[i]?) = (wf u).map some)
    (hn : As.length = n) (hl : ls.size = nL) (hst : st0 = As.reverse ++ .ref b :: rest) (hroom : (rest.map fun v => v.category).sum ≤ 8) (hdg : decode cc pc = .ok (.invokespecial index, 3)) (hf : cells + mc ≤ R.cells ∧ slots + ms ≤ R.slots)
    (kk : ∀ (u : S) (H1 : Heap) (locs1 : List Loc), post u → va_P D vwCl (wf u) H1 → va_D A (wf u) → va_S A H0 H1 locs1 → W p l e R s m args below meth c H1 locs1 (cells + mc) (slots + ms) Q (F0 m (pc + 3) ls rest)) : W p l e R s m args below meth c H locs cells slots Q (F0 m pc ls st0) := by
  subst hst
  refine va_callv (va_runI (rest := rest) F hM cw ⟨PreW.blind, fun U hU hW => ⟨rfl, zw_pre z hK hU hW⟩⟩ rfl hn hl rfl (lv_room hroom) hdg hf) z.2.2.1 (fun q _ h => zw_free z q h) (zw_free z) (fun u t H1 locs1 ht hvm hw hB hz1 hk1 hS => ?_)
  obtain ⟨hP1, hK1, hD1⟩ := hB
  rw [ht] at hP1
  obtain ⟨h1, h2⟩ := wj z.1 z.2.1 isC isR ks z.2.2.2.2.2.2.2.1 z.2.2.2.2.2.2.2.2 z.2.2.2.2.2.1 z.2.2.2.2.2.2.1 hk2 (hks u) hk1 (zw_free z) hP1 hD1
  exact kk u H1 locs1 hw h1 h2 hS
end ZC
section ZR
variable {p : Program} {l : Launch} {e : Env} {R : Room} {s : State} {m : MethodId} {args : Array Value} {below : List Frame} {meth : Method} {c : Code} {H : Heap} {locs : List Loc} {cells slots : Nat} {Q : State → Prop}
variable {cc : ByteArray} {pc : Nat} {ls : Array Slot} {rest : List Value} {D : va_G} {A : Nat → Prop} {a : Nat} {cI cZ : ClassId} {ws : va_W} {H0 : Heap}
/-- reads and writes of an array of ints at the place i -/
theorem zald (hexec : p.tables.exec = Jvm.exec) (hb : c.code = cc) (hK : va_K D vwCl (tyl cI cZ) s) (hP : va_P D vwCl ws H) (q0 : Nat) {n : Nat} {f : Nat → Int32} (ha : ws[q0]? = some (a, .inl (cI, n, .inl f))) {x : Int32} (i : Nat) (hxi : x = nI i) (hi : i < n) (hn : n < 2 ^ 31) (hdg : decode cc pc = .ok (.iaload, 1))
    (kk : W p l e R s m args below meth c H locs cells slots Q (F0 m (pc + 1) ls (.int (f i) :: rest))) : W p l e R s m args below meth c H locs cells slots Q (F0 m pc ls (.int x :: .ref a :: rest)) := by
  subst hxi
  refine va_iald hexec hb hK hP q0 0 ha rfl (vp_in_nI hi hn) hdg ?_
  rw [nI_clamp (Nat.lt_trans hi hn)]
  exact kk
theorem zbld (hexec : p.tables.exec = Jvm.exec) (hb : c.code = cc) (hK : va_K D vwCl (tyl cI cZ) s) (hP : va_P D vwCl ws H) (q0 : Nat) {n : Nat} {f : Nat → Int32} (ha : ws[q0]? = some (a, .inl (cZ, n, .inl f))) {x : Int32} (i : Nat) (hxi : x = nI i) (hi : i < n) (hn : n < 2 ^ 31) (hdg : decode cc pc = .ok (.baload, 1))
    (kk : W p l e R s m args below meth c H locs cells slots Q (F0 m (pc + 1) ls (.int (f i) :: rest))) : W p l e R s m args below meth c H locs cells slots Q (F0 m pc ls (.int x :: .ref a :: rest)) := by
  subst hxi
  refine va_zald hexec hb hK hP q0 1 ha rfl (vp_in_nI hi hn) hdg ?_
  rw [nI_clamp (Nat.lt_trans hi hn)]
  exact kk
theorem zast (hexec : p.tables.exec = Jvm.exec) (hb : c.code = cc) (hK : va_K D vwCl (tyl cI cZ) s) (hP : va_P D vwCl ws H) (hD : va_D A ws) (hS : va_S A H0 H locs) (q0 : Nat) {n : Nat} {f : Nat → Int32} (ha : ws[q0]? = some (a, .inl (cI, n, .inl f))) {x v : Int32} (i : Nat) (hxi : x = nI i) (hi : i < n) (hn : n < 2 ^ 31) (wf : va_W) (hwf : ws.set q0 (a, .inl (cI, n, .inl (upd f i v))) = wf) (hdg : decode cc pc = .ok (.iastore, 1))
    (kk : ∀ (H1 : Heap) (locs1 : List Loc), va_P D vwCl wf H1 → va_D A wf → va_S A H0 H1 locs1 → W p l e R s m args below meth c H1 locs1 cells slots Q (F0 m (pc + 1) ls rest)) : W p l e R s m args below meth c H locs cells slots Q (F0 m pc ls (.int v :: .int x :: .ref a :: rest)) := by
  subst hxi
  subst hwf
  refine va_iast hexec hb hK hP hD hS q0 0 ha rfl (vp_in_nI hi hn) hdg ?_
  rw [nI_clamp (Nat.lt_trans hi hn)]
  exact kk
theorem zbst (hexec : p.tables.exec = Jvm.exec) (hb : c.code = cc) (hK : va_K D vwCl (tyl cI cZ) s) (hP : va_P D vwCl ws H) (hD : va_D A ws) (hS : va_S A H0 H locs) (q0 : Nat) {n : Nat} {f : Nat → Int32} (ha : ws[q0]? = some (a, .inl (cZ, n, .inl f))) {x v : Int32} (i : Nat) (hxi : x = nI i) (hi : i < n) (hn : n < 2 ^ 31) (hv : vp_nar .boolean v = v) (wf : va_W) (hwf : ws.set q0 (a, .inl (cZ, n, .inl (upd f i v))) = wf) (hdg : decode cc pc = .ok (.bastore, 1))
    (kk : ∀ (H1 : Heap) (locs1 : List Loc), va_P D vwCl wf H1 → va_D A wf → va_S A H0 H1 locs1 → W p l e R s m args below meth c H1 locs1 cells slots Q (F0 m (pc + 1) ls rest)) : W p l e R s m args below meth c H locs cells slots Q (F0 m pc ls (.int v :: .int x :: .ref a :: rest)) := by
  subst hxi
  subst hwf
  refine va_zast hexec hb hK hP hD hS q0 1 ha rfl (vp_in_nI hi hn) hdg ?_
  rw [nI_clamp (Nat.lt_trans hi hn), hv]
  exact kk
end ZR

/-! The worlds. A BillBook at (a 1), its columns at (a 2) and on; a ReceiptBook at (a 13), an ExactSet at (a 22), the CashAllocator at (a 0). Column k of a table is the field of that place; a number field k stands at place 0 of column k. -/
def wBB (a : Nat → Nat) (cI : ClassId) (B : Nat → Nat → Int32) : va_W := [(a 1, .inr (0, [.ref (a 2), .ref (a 3), .ref (a 4), .ref (a 5), .ref (a 6), .ref (a 7), .ref (a 8), .ref (a 9), .ref (a 10), .ref (a 11), .ref (a 12), .int (B 11 0)])), (a 2, .inl (cI, 40, .inl (B 0))), (a 3, .inl (cI, 40, .inl (B 1))), (a 4, .inl (cI, 40, .inl (B 2))), (a 5, .inl (cI, 40, .inl (B 3))), (a 6, .inl (cI, 40, .inl (B 4))), (a 7, .inl (cI, 40, .inl (B 5))), (a 8, .inl (cI, 40, .inl (B 6))), (a 9, .inl (cI, 40, .inl (B 7))), (a 10, .inl (cI, 40, .inl (B 8))), (a 11, .inl (cI, 40, .inl (B 9))), (a 12, .inl (cI, 40, .inl (B 10)))]
def wRB (a : Nat → Nat) (cI cZ : ClassId) (R : Nat → Nat → Int32) : va_W := [(a 13, .inr (2, [.ref (a 14), .ref (a 15), .ref (a 16), .ref (a 17), .ref (a 18), .ref (a 19), .ref (a 20), .ref (a 21), .int (R 8 0)])), (a 14, .inl (cI, 30, .inl (R 0))), (a 15, .inl (cI, 30, .inl (R 1))), (a 16, .inl (cI, 30, .inl (R 2))), (a 17, .inl (cI, 30, .inl (R 3))), (a 18, .inl (cI, 30, .inl (R 4))), (a 19, .inl (cZ, 30, .inl (R 5))), (a 20, .inl (cI, 1200, .inl (R 6))), (a 21, .inl (cZ, 1200, .inl (R 7)))]
def wES (a : Nat → Nat) (cI : ClassId) (E : Nat → Nat → Int32) : va_W := [(a 22, .inr (1, [.ref (a 23), .ref (a 24), .ref (a 25), .int (E 3 0)])), (a 23, .inl (cI, 40, .inl (E 0))), (a 24, .inl (cI, 40, .inl (E 1))), (a 25, .inl (cI, 3, .inl (E 2)))]
def wC0 (a : Nat → Nat) (td : Int32) : Nat × va_E := (a 0, .inr (3, [.ref (a 1), .ref (a 13), .ref (a 22), .int td]))
def wCA (a : Nat → Nat) (cI cZ : ClassId) (B R E : Nat → Nat → Int32) (td : Int32) : va_W := wC0 a td :: (wBB a cI B ++ (wRB a cI cZ R ++ wES a cI E))
/-- the reference: at (a 0), its columns at (a 1) and on -/
def wM (a : Nat → Nat) (cI cZ : ClassId) (M : Nat → Nat → Int32) : va_W := [(a 0, .inr (4, [.int (M 0 0), .int (M 1 0), .int (M 2 0), .ref (a 1), .ref (a 2), .ref (a 3), .ref (a 4), .ref (a 5), .ref (a 6), .ref (a 7), .ref (a 8), .ref (a 9), .ref (a 10), .ref (a 11), .ref (a 12), .int (M 15 0), .ref (a 13), .ref (a 14), .ref (a 15), .ref (a 16), .ref (a 17), .ref (a 18), .ref (a 19), .ref (a 20)])), (a 1, .inl (cI, 40, .inl (M 3))), (a 2, .inl (cI, 40, .inl (M 4))), (a 3, .inl (cI, 40, .inl (M 5))), (a 4, .inl (cI, 40, .inl (M 6))), (a 5, .inl (cI, 40, .inl (M 7))), (a 6, .inl (cI, 40, .inl (M 8))), (a 7, .inl (cI, 40, .inl (M 9))), (a 8, .inl (cI, 40, .inl (M 10))), (a 9, .inl (cI, 40, .inl (M 11))), (a 10, .inl (cI, 40, .inl (M 12))), (a 11, .inl (cI, 40, .inl (M 13))), (a 12, .inl (cI, 40, .inl (M 14))), (a 13, .inl (cI, 30, .inl (M 16))), (a 14, .inl (cI, 30, .inl (M 17))), (a 15, .inl (cI, 30, .inl (M 18))), (a 16, .inl (cI, 30, .inl (M 19))), (a 17, .inl (cZ, 30, .inl (M 20))), (a 18, .inl (cI, 1200, .inl (M 21))), (a 19, .inl (cZ, 1200, .inl (M 22))), (a 20, .inl (cI, 3, .inl (M 23)))]
section ZP
variable {D : va_G} {cI cZ : ClassId} {a : Nat → Nat} {B R E : Nat → Nat → Int32} {td : Int32} {A : Nat → Prop} {H0 H : Heap} {locs : List Loc}
abbrev isBB : List Nat := [1, 2, 3, 4, 5, 6, 7, 8, 9, 10, 11, 12]
abbrev irBB : List Nat := [0, 13, 14, 15, 16, 17, 18, 19, 20, 21, 22, 23, 24, 25]
abbrev ksBB : List Nat := [0, 14, 15, 16, 17, 18, 19, 20, 21, 22, 23, 24, 25, 1, 2, 3, 4, 5, 6, 7, 8, 9, 10, 11, 12, 13]
def rBB (a : Nat → Nat) (cI cZ : ClassId) (R E : Nat → Nat → Int32) (td : Int32) : va_W := wC0 a td :: (wRB a cI cZ R ++ wES a cI E)
theorem zwBB (hP : va_P D vwCl (wCA a cI cZ B R E td) H) (hD : va_D A (wCA a cI cZ B R E td)) (hS : va_S A H0 H locs) (hA : ∀ q, H0.size ≤ q → A q) : ZW D A H0 (wCA a cI cZ B R E td) (wBB a cI B) (rBB a cI cZ R E td) H locs isBB irBB := ⟨hP, hD, hS, hA, by decide, by decide, by decide, rfl, rfl⟩
theorem zkBB (B' : Nat → Nat → Int32) : ksBB.map (fun i => (rBB a cI cZ R E td ++ wBB a cI B')[i]?) = (wCA a cI cZ B' R E td).map some := rfl
abbrev isRB : List Nat := [13, 14, 15, 16, 17, 18, 19, 20, 21]
abbrev irRB : List Nat := [0, 1, 2, 3, 4, 5, 6, 7, 8, 9, 10, 11, 12, 22, 23, 24, 25]
abbrev ksRB : List Nat := [0, 1, 2, 3, 4, 5, 6, 7, 8, 9, 10, 11, 12, 17, 18, 19, 20, 21, 22, 23, 24, 25, 13, 14, 15, 16]
def rRB (a : Nat → Nat) (cI : ClassId) (B E : Nat → Nat → Int32) (td : Int32) : va_W := wC0 a td :: (wBB a cI B ++ wES a cI E)
theorem zwRB (hP : va_P D vwCl (wCA a cI cZ B R E td) H) (hD : va_D A (wCA a cI cZ B R E td)) (hS : va_S A H0 H locs) (hA : ∀ q, H0.size ≤ q → A q) : ZW D A H0 (wCA a cI cZ B R E td) (wRB a cI cZ R) (rRB a cI B E td) H locs isRB irRB := ⟨hP, hD, hS, hA, by decide, by decide, by decide, rfl, rfl⟩
theorem zkRB (R' : Nat → Nat → Int32) : ksRB.map (fun i => (rRB a cI B E td ++ wRB a cI cZ R')[i]?) = (wCA a cI cZ B R' E td).map some := rfl
abbrev isES : List Nat := [22, 23, 24, 25]
abbrev irES : List Nat := [0, 1, 2, 3, 4, 5, 6, 7, 8, 9, 10, 11, 12, 13, 14, 15, 16, 17, 18, 19, 20, 21]
abbrev ksES : List Nat := [0, 1, 2, 3, 4, 5, 6, 7, 8, 9, 10, 11, 12, 13, 14, 15, 16, 17, 18, 19, 20, 21, 22, 23, 24, 25]
def rES (a : Nat → Nat) (cI cZ : ClassId) (B R : Nat → Nat → Int32) (td : Int32) : va_W := wC0 a td :: (wBB a cI B ++ wRB a cI cZ R)
theorem zwES (hP : va_P D vwCl (wCA a cI cZ B R E td) H) (hD : va_D A (wCA a cI cZ B R E td)) (hS : va_S A H0 H locs) (hA : ∀ q, H0.size ≤ q → A q) : ZW D A H0 (wCA a cI cZ B R E td) (wES a cI E) (rES a cI cZ B R td) H locs isES irES := ⟨hP, hD, hS, hA, by decide, by decide, by decide, rfl, rfl⟩
theorem zkES (E' : Nat → Nat → Int32) : ksES.map (fun i => (rES a cI cZ B R td ++ wES a cI E')[i]?) = (wCA a cI cZ B R E' td).map some := rfl
end ZP
section ZS
variable {D : va_G} {ws : va_W} {A : Nat → Prop} {H0 H : Heap} {locs : List Loc}
/-- a whole world of k cells goes to the callee -/
theorem zwAll (k : Nat) (hk : va_nd (List.range k) = true) (hw : (List.range k).map (fun i => ws[i]?) = ws.map some) (hP : va_P D vwCl ws H) (hD : va_D A ws) (hS : va_S A H0 H locs) (hA : ∀ q, H0.size ≤ q → A q) : ZW D A H0 ws ws [] H locs (List.range k) [] := ⟨hP, hD, hS, hA, hk, rfl, (fun _ h => absurd h List.not_mem_nil), hw, rfl⟩
/-- nothing of it goes to the callee -/
theorem zwNo (k : Nat) (hk : va_nd (List.range k) = true) (hw : (List.range k).map (fun i => ws[i]?) = ws.map some) (hP : va_P D vwCl ws H) (hD : va_D A ws) (hS : va_S A H0 H locs) (hA : ∀ q, H0.size ≤ q → A q) : ZW D A H0 ws [] ws H locs [] (List.range k) := ⟨hP, hD, hS, hA, rfl, hk, (fun _ _ h => absurd h List.not_mem_nil), rfl, hw⟩
end ZS
