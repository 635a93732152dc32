section LWSTART
variable {p : Program} {l : Launch} {e : Env} {R : Room} {s : State} {m : MethodId} {args : Array Value} {below : List Frame} {meth : Method} {c : Code} {H : Heap} {locs : List Loc} {cells slots : Nat} {Q : State → Prop}
variable {y : MethodName} {bytes cc : ByteArray} {maxL nL mc ms n index : Nat} {wsy : List Cond} {rm : Room} {Ts : List Cond} {own : String} {b : Addr} {As rest st0 : List Value} {pc : Nat} {ls : Array Slot}
variable {D : va_G} {cI cZ : ClassId} {ws wc wr : va_W} {A : Nat → Prop} {H0 : Heap}
theorem Nst.warm {U : State} (hW : s.WarmedH U.vm) (h : Nst s) : Nst U := ⟨va_Nw.warmM hW h.1, va_Nw.warmM hW h.2.1, va_Nw.warmM hW h.2.2⟩
/-- the constructor of CashAllocator, which makes its nest mates -/
theorem zcIX {S : Type} {post : S → Prop} {w1 wf : S → va_W} {isC isR : List Nat} (ks : List Nat) (F : CallFix p m c cc nL s args Ts own) (z : ZW D A H0 ws wc wr H locs isC isR) (hK : va_K D vwCl (tyl cI cZ) s) (hN : Nst s)
    (hM : Met l y wsy rm (va_Pc (.ref b :: As) (PreN D cI cZ wc H.size)) (va_Qv post (fun u => PostW D cI cZ (va_A wc H.size) (w1 u)) (va_A wc H.size)) mc ms (va_A wc H.size))
    (cw : CallB R s args own index y bytes maxL none wsy rm mc ms n ∧ y.name = "<init>" ∧ (Cond.instanceMethod y).before args s = true)
    (hk2 : va_nd ks = true) (hks : ∀ u, ks.map (fun i => (wr ++ w1 u)[i]?) = (wf u).map some)
    (hn : As.length = n) (hl : ls.size = nL) (hst : st0 = As.reverse ++ .ref b :: rest) (hroom : (rest.map fun v => v.category).sum ≤ 8) (hdg : decode cc pc = .ok (.invokespecial index, 3)) (hf : cells + mc ≤ R.cells ∧ slots + ms ≤ R.slots)
    (kk : ∀ (u : S) (H1 : Heap) (locs1 : List Loc), post u → va_P D vwCl (wf u) H1 → va_D A (wf u) → va_S A H0 H1 locs1 → W p l e R s m args below meth c H1 locs1 (cells + mc) (slots + ms) Q (F0 m (pc + 3) ls rest)) : W p l e R s m args below meth c H locs cells slots Q (F0 m pc ls st0) := by
  subst hst
  refine va_callv (va_runI (rest := rest) F hM cw ⟨PreN.blind, fun U hU hW => ⟨rfl, zw_pre z hK hU hW, hN.warm hW⟩⟩ rfl hn hl rfl (lv_room hroom) hdg hf) z.2.2.1 (fun q _ h => zw_free z q h) (zw_free z) (fun u t H1 locs1 ht hvm hw hB hz1 hk1 hS => ?_)
  obtain ⟨hP1, hK1, hD1⟩ := hB
  rw [ht] at hP1
  obtain ⟨h1, h2⟩ := wj z.1 z.2.1 isC isR ks z.2.2.2.2.2.2.2.1 z.2.2.2.2.2.2.2.2 z.2.2.2.2.2.1 z.2.2.2.2.2.2.1 hk2 (hks u) hk1 (zw_free z) hP1 hD1
  exact kk u H1 locs1 hw h1 h2 hS
theorem kn_int (h : (Cond.arrayClass .int).before args s = true) : ∃ q : ClassId, ArrOfT s q .int ∧ va_RA s q .int := by
  obtain ⟨q, kA, comp, h1, h2, h3⟩ := Cond.arrayClass_spec h
  exact ⟨q, fun n z => ⟨fun k h => (by cases h), kA, h2, comp, h3⟩, h1⟩
theorem kn_bool (h : (Cond.arrayClass .boolean).before args s = true) : ∃ q : ClassId, ArrOfT s q .boolean ∧ va_RA s q .boolean := by
  obtain ⟨q, kA, comp, h1, h2, h3⟩ := Cond.arrayClass_spec h
  exact ⟨q, fun n z => ⟨fun k h => (by cases h), kA, h2, comp, h3⟩, h1⟩
theorem exS {k : Nat} {tx : String} (h1 : (Cond.stringRef RX3 k tx).before args s = true) (h2 : (Cond.exactly (.string RX3 k) "java/lang/String").before args s = true) : ∃ sa, vk_R RX3 k tx sa s := by
  obtain ⟨a, c, cell, kA, q1, -⟩ := Cond.exactly_spec (args := args) (first := s) (o := none) (s := s) (idx := []) (t := .string RX3 k) (cls := "java/lang/String") h2
  exact ⟨a, vk_R.of h1 q1⟩
theorem exT_tab : ∀ k ∈ exT, Cond.stringRef RX3 k.1 k.2 ∈ lw_tbl := by decide +kernel
theorem exT_nar : ∀ k ∈ exT, Cond.exactly (.string RX3 k.1) "java/lang/String" ∈ flatC (Jvm.Cond.and given_1 narrow_1) := by decide +kernel
theorem exN_nar : ∀ k ∈ [(eA, eI), (eS, eI), (eS, eA)], Cond.not (.castable k.1 k.2) ∈ flatC (Jvm.Cond.and given_1 narrow_1) := by decide +kernel
theorem exZ_nar : ∀ k ∈ [("UNASSIGNED_STACK", Bundle.steD), ("SUPPRESSED_SENTINEL", Bundle.listD)], Cond.isRef (.static Bundle.tN k.1 k.2) ∈ flatC (Jvm.Cond.and given_1 narrow_1) := by decide +kernel
theorem exZ_tab : ∀ k ∈ [("UNASSIGNED_STACK", Bundle.steD), ("SUPPRESSED_SENTINEL", Bundle.listD)], Cond.laysStatic Bundle.tN k.1 k.2 ∈ lw_tbl ∧ Cond.initialized Bundle.tN ∈ lw_tbl := by decide +kernel
theorem exB_tab : ∀ w ∈ exD ++ exC, w ∈ lw_tbl := by decide +kernel
theorem nst_tab : ∀ w ∈ [Cond.methodLinkNest RX3 9 yX0_init "CashAllocator", Cond.methodLinkNest RX3 18 yX2_init "CashAllocator", Cond.methodLinkNest RX3 25 yX1_init "CashAllocator"], w ∈ lw_tbl := by decide +kernel
theorem exB_of (hts : ∀ w ∈ lw_tbl, w.before args s = true) (hgv : (Jvm.Cond.and given_1 narrow_1).before args s = true) : ExB s := by
  have hs := flat_of_before _ hgv
  refine ⟨⟨⟨va_Nw.of rfl (hts _ (exB_tab _ (by simp [exD]))), va_Nw.of rfl (hts _ (exB_tab _ (by simp [exD]))), va_Nw.of rfl (hts _ (exB_tab _ (by simp [exD])))⟩, va_Nw.of rfl (hts _ (exB_tab _ (by simp [exC]))), va_Nw.of rfl (hts _ (exB_tab _ (by simp [exC]))), va_Nw.of rfl (hts _ (exB_tab _ (by simp [exC])))⟩, fun k hk => exS (hts _ (exT_tab k hk)) (hs _ (exT_nar k hk)), va_Nc.of (hs _ (exN_nar (eA, eI) (by simp))), va_Nc.of (hs _ (exN_nar (eS, eI) (by simp))), va_Nc.of (hs _ (exN_nar (eS, eA) (by simp)))⟩
theorem exZ_of (hts : ∀ w ∈ lw_tbl, w.before args s = true) (hgv : (Jvm.Cond.and given_1 narrow_1).before args s = true) : ExZ (fun q => s.heap.size ≤ q) s s.heap := by
  have hs := flat_of_before _ hgv
  have hA : ∀ q : Nat, q < s.heap.size → ¬ (fun q => s.heap.size ≤ q) q := fun q h z => absurd h (Nat.not_lt.mpr z)
  have h1 := exZ_tab ("UNASSIGNED_STACK", Bundle.steD) (by simp)
  have h2 := exZ_tab ("SUPPRESSED_SENTINEL", Bundle.listD) (by simp)
  exact ⟨vx_Zqof (hts _ h1.1) (hts _ h1.2) (hs _ (exZ_nar ("UNASSIGNED_STACK", Bundle.steD) (by simp))) hA, vx_Zqof (hts _ h2.1) (hts _ h2.2) (hs _ (exZ_nar ("SUPPRESSED_SENTINEL", Bundle.listD) (by simp))) hA⟩
theorem nst_of (hts : ∀ w ∈ lw_tbl, w.before args s = true) : Nst s := ⟨va_Nw.of rfl (hts _ (nst_tab _ (by simp))), va_Nw.of rfl (hts _ (nst_tab _ (by simp))), va_Nw.of rfl (hts _ (nst_tab _ (by simp)))⟩
theorem tr_of (hflags : l.flags = flags0) : l.stackTraces = false := by
  unfold Launch.stackTraces
  rw [hflags]
  decide +kernel
theorem cls_of (hts : ∀ w ∈ wsL_law, w.before args s = true) : ∃ D : va_G, ∀ (k : Nat) (q : vw_C), vwCl[k]? = some q → u_Kn s q.1 q.2.1 q.2.2 (D.1 k) (D.2 k) := by
  obtain ⟨c0, i0, h0⟩ := u_known (C := RX0) (T := TX0) (N := 12) (n := 12) hts inlX0 (hts (.instantiable RX0 12) (by decide +kernel))
  obtain ⟨c1, i1, h1⟩ := u_known (C := RX1) (T := TX1) (N := 4) (n := 4) hts inlX1 (hts (.instantiable RX1 4) (by decide +kernel))
  obtain ⟨c2, i2, h2⟩ := u_known (C := RX2) (T := TX2) (N := 9) (n := 9) hts inlX2 (hts (.instantiable RX2 9) (by decide +kernel))
  obtain ⟨c3, i3, h3⟩ := u_known (C := RX3) (T := TX3) (N := 4) (n := 4) hts inlX3 (hts (.instantiable RX3 4) (by decide +kernel))
  refine ⟨(fun k => if k = 0 then c0 else if k = 1 then c1 else if k = 2 then c2 else c3, fun k => if k = 0 then i0 else if k = 1 then i1 else if k = 2 then i2 else i3), ?_⟩
  intro k q hq
  match k, hq with
  | 0, hq => cases hq; exact h0
  | 1, hq => cases hq; exact h1
  | 2, hq => cases hq; exact h2
  | 3, hq => cases hq; exact h3
  | k + 4, hq => simp at hq
end LWSTART
set_option maxHeartbeats 8000000 in
set_option maxRecDepth 100000 in
theorem whole_start {p : Program} {e : Env} {s : State} {m : MethodId} {below : List Frame} {meth : Method} {c : Code} (l : Launch) (hflags : l.flags = flags0) {b L : Nat} {xs : Nat → Int32} (hL : L ≤ 260) (C0 : lw_At p s m meth c b L xs) : W p l e room_1 s m #[Value.ref b] below meth c s.heap [] 0 0 (lw_Z below #[Value.ref b] s) (entryFrame m ([Value.ref b] : List Value).toArray 11) := by
  obtain ⟨hx, hb, hr, hml, hown, htab, hX, hbl, hlocks, hgv⟩ := id C0
  have hts : ∀ w ∈ wsL_law, w.before #[Value.ref b] s = true := fun w h => htab w (wsL_law_in w h)
  have hA : ∀ q : Nat, s.heap.size ≤ q → (fun q : Nat => s.heap.size ≤ q) q := fun _ h => h
  have hbA : ¬ (fun q : Nat => s.heap.size ≤ q) b := Nat.not_le.mpr hbl
  have hEB := exB_of htab hgv
  have hEZ := exZ_of htab hgv
  have hNs := nst_of htab
  obtain ⟨D, hKn⟩ := cls_of hts
  obtain ⟨cI, hI1, hI2⟩ := kn_int (hts (.arrayClass .int) (by decide +kernel))
  obtain ⟨cZ, hZ1, hZ2⟩ := kn_bool (hts (.arrayClass .boolean) (by decide +kernel))
  have hK : va_K D vwCl (tyl cI cZ) s := by
    refine ⟨hKn, fun k q hq => ?_⟩
    match k, hq with
    | 0, hq => cases hq; exact ⟨hI1, hI2⟩
    | 1, hq => cases hq; exact ⟨hZ1, hZ2⟩
    | k + 2, hq => simp at hq
  have F : CallFix p m c code 11 s #[Value.ref b] wsL_law RL := ⟨hx, hb, hml, hown, hts⟩
  have hS : va_S (fun q : Nat => s.heap.size ≤ q) s.heap s.heap [] := va_S.rf
  have hP : va_P D vwCl [] s.heap := fun k q h => by simp at h
  have hD : va_D (fun q : Nat => s.heap.size ≤ q) [] := ⟨fun i j p q h => by simp at h, fun k q h => by simp at h⟩
  have hl := lv_entry ([.ref b]) (n := 11) (Nat.le_of_ble_eq_true rfl)
  rw [lg_entry_eq]
  generalize (lg_sl ([.ref b]) ++ List.replicate (11 - (lg_sl ([.ref b])).length) Slot.unset).toArray = ls at hl ⊢
  have hl : lv_has ls 11 [(0, .ref b)] := hl
  refine va_new (ci := 3) (fs := [.null, .null, .null, .int 0]) (C := RX3) (T := TX3) (N := 4) hx hb hts inlX3 tyX3 tyX3_ok hown (hts (.classLink RL 8 RX3) (by decide +kernel)) (hts (.instantiable RX3 4) (by decide +kernel)) (hts (.initialized RX3) (by decide +kernel)) hK hP hD hS hA rfl (fun j hj => by rcases (show j = 0 ∨ j = 1 ∨ j = 2 ∨ j = 3 by omega) with rfl | rfl | rfl | rfl <;> rfl) (Nat.le_of_ble_eq_true rfl) (Nat.le_of_ble_eq_true rfl) dL_law_0 (fun q0 H hP hD hS => ?_)
  have hP : va_P D vwCl [(q0, .inr (3, [.null, .null, .null, .int 0]))] H := hP
  have hD : va_D (fun q : Nat => s.heap.size ≤ q) [(q0, .inr (3, [.null, .null, .null, .int 0]))] := hD
  refine W.widen (k := 1) (n := 4) (Nat.le_of_ble_eq_true rfl) (Nat.le_of_ble_eq_true rfl) ?_
  refine lv_dup hx hb dL_law_3 rfl ?_
  refine zcIX (b := q0) (wf := fun (u : Nat → Nat) => wCA u cI cZ z0 z0 z0 0) (List.range 26) F (zwAll 1 rfl rfl hP hD hS hA) hK hNs (c_X3_init l D cI cZ q0 H.size) (cwI 0 hts ggL_law_X3_init rfl rfl rfl (hts (.initialized RX3) (by decide +kernel)) (hts (.methodLink RL 168 yX3_init) (by decide +kernel)) (hts (.instanceMethod yX3_init) (by decide +kernel)) rfl (by decide +kernel) ⟨Nat.le_of_ble_eq_true rfl, Nat.le_of_ble_eq_true rfl⟩) (by decide) (fun _ => rfl) rfl hl.1 rfl (Nat.le_of_ble_eq_true rfl) dL_law_4 ⟨Nat.le_of_ble_eq_true rfl, Nat.le_of_ble_eq_true rfl⟩ (fun u H locs hu hP hD hS => ?_)
  have hP : va_P D vwCl (wCA u cI cZ z0 z0 z0 0) H := hP
  have hD : va_D (fun q : Nat => s.heap.size ≤ q) (wCA u cI cZ z0 z0 z0 0) := hD
  rw [← hu]
  refine W.widen (k := 26) (n := 3132) (Nat.le_of_ble_eq_true rfl) (Nat.le_of_ble_eq_true rfl) ?_
  refine lv_astore_n (lv' := [(1, .ref (u 0)), (0, .ref b)]) hx hb dL_law_7 rfl hl (by decide) rfl (fun ls hl => ?_)
  refine va_new (ci := 3) (fs := [.null, .null, .null, .int 0]) (C := RX3) (T := TX3) (N := 4) hx hb hts inlX3 tyX3 tyX3_ok hown (hts (.classLink RL 8 RX3) (by decide +kernel)) (hts (.instantiable RX3 4) (by decide +kernel)) (hts (.initialized RX3) (by decide +kernel)) hK hP hD hS hA rfl (fun j hj => by rcases (show j = 0 ∨ j = 1 ∨ j = 2 ∨ j = 3 by omega) with rfl | rfl | rfl | rfl <;> rfl) (Nat.le_of_ble_eq_true rfl) (Nat.le_of_ble_eq_true rfl) dL_law_8 (fun q1 H hP hD hS => ?_)
  refine W.widen (k := 27) (n := 3136) (Nat.le_of_ble_eq_true rfl) (Nat.le_of_ble_eq_true rfl) ?_
  refine lv_dup hx hb dL_law_11 rfl ?_
  have zz : ZW D (fun q : Nat => s.heap.size ≤ q) s.heap (wCA u cI cZ z0 z0 z0 0 ++ [(q1, .inr (3, [.null, .null, .null, .int 0]))]) [(q1, .inr (3, [.null, .null, .null, .int 0]))] (wCA u cI cZ z0 z0 z0 0) H locs [26] (List.range 26) := ⟨hP, hD, hS, hA, by decide, by decide, by decide, rfl, rfl⟩
  refine zcIX (b := q1) (wf := fun (v : Nat → Nat) => wCA u cI cZ z0 z0 z0 0 ++ wCA v cI cZ z0 z0 z0 0) (List.range 52) F zz hK hNs (c_X3_init l D cI cZ q1 H.size) (cwI 0 hts ggL_law_X3_init rfl rfl rfl (hts (.initialized RX3) (by decide +kernel)) (hts (.methodLink RL 168 yX3_init) (by decide +kernel)) (hts (.instanceMethod yX3_init) (by decide +kernel)) rfl (by decide +kernel) ⟨Nat.le_of_ble_eq_true rfl, Nat.le_of_ble_eq_true rfl⟩) (by decide) (fun _ => rfl) rfl hl.1 rfl (Nat.le_of_ble_eq_true rfl) dL_law_12 ⟨Nat.le_of_ble_eq_true rfl, Nat.le_of_ble_eq_true rfl⟩ (fun v H locs hv hP hD hS => ?_)
  have hP : va_P D vwCl (wCA u cI cZ z0 z0 z0 0 ++ wCA v cI cZ z0 z0 z0 0) H := hP
  have hD : va_D (fun q : Nat => s.heap.size ≤ q) (wCA u cI cZ z0 z0 z0 0 ++ wCA v cI cZ z0 z0 z0 0) := hD
  rw [← hv]
  refine W.widen (k := 52) (n := 6264) (Nat.le_of_ble_eq_true rfl) (Nat.le_of_ble_eq_true rfl) ?_
  refine lv_astore_n (lv' := [(2, .ref (v 0)), (1, .ref (u 0)), (0, .ref b)]) hx hb dL_law_15 rfl hl (by decide) rfl (fun ls hl => ?_)
  refine lv_bipush (v := nI 40) hx hb dL_law_16 (by decide) ?_
  refine va_newa (atype := .int) (ty := .int) (N' := 40) (a0 := (40, .inl (fun _ => 0))) hx hb (hts (.arrayClass .int) (by decide +kernel)) rfl hK hP hD hS hA (fun _ => rfl) (nI_pos (by omega)) (nI_clamp (by omega)) (by decide) (Nat.le_of_ble_eq_true rfl) (Nat.le_of_ble_eq_true rfl) dL_law_18 (fun qm cA H hK2 hP hD hS => ?_)
  obtain rfl : cI = cA := Option.some.inj ((hK.2 0 _ rfl).2.symm.trans (hK2.2 2 _ rfl).2)
  clear hK2
  refine W.widen (k := 53) (n := 6304) (Nat.le_of_ble_eq_true rfl) (Nat.le_of_ble_eq_true rfl) ?_
  refine lv_astore_n (lv' := [(3, .ref qm), (2, .ref (v 0)), (1, .ref (u 0)), (0, .ref b)]) hx hb dL_law_20 rfl hl (by decide) rfl (fun ls hl => ?_)
  refine lv_bipush (v := nI 40) hx hb dL_law_21 (by decide) ?_
  refine va_newa (atype := .int) (ty := .int) (N' := 40) (a0 := (40, .inl (fun _ => 0))) hx hb (hts (.arrayClass .int) (by decide +kernel)) rfl hK hP hD hS hA (fun _ => rfl) (nI_pos (by omega)) (nI_clamp (by omega)) (by decide) (Nat.le_of_ble_eq_true rfl) (Nat.le_of_ble_eq_true rfl) dL_law_23 (fun qw cA H hK2 hP hD hS => ?_)
  obtain rfl : cI = cA := Option.some.inj ((hK.2 0 _ rfl).2.symm.trans (hK2.2 2 _ rfl).2)
  clear hK2
  refine W.widen (k := 54) (n := 6344) (Nat.le_of_ble_eq_true rfl) (Nat.le_of_ble_eq_true rfl) ?_
  refine lv_astore (lv' := [(4, .ref qw), (3, .ref qm), (2, .ref (v 0)), (1, .ref (u 0)), (0, .ref b)]) hx hb dL_law_25 hl (by decide) rfl (fun ls hl => ?_)
  have hP : va_P D vwCl (wLW u v cI cZ z0 z0 z0 0 z0 z0 z0 0 qm qw (fun _ => 0) (fun _ => 0)) H := hP.sub (List.range 54) rfl
  have hD : va_D (fun q : Nat => s.heap.size ≤ q) (wLW u v cI cZ z0 z0 z0 0 z0 z0 z0 0 qm qw (fun _ => 0) (fun _ => 0)) := hD.sub (List.range 54) (by decide) rfl
  refine lv_bipush (v := nI 14) hx hb dL_law_27 (by decide) ?_
  refine lv_aload_n hx hb dL_law_29 rfl (lv_at hl 4 rfl) ?_
  refine lv_iconst (v := nI 0) hx hb dL_law_30 (by decide) ?_
  refine zkD (v := nI (drw L xs 0)) F hP hD hS hA hK hX hbl hbA 54 (by decide) rfl (c_L_drawn l D cI cZ H.size b L xs 0 hL (by omega)) (cwS 2 hts gL_law_L_drawn rfl rfl rfl (by decide +kernel) ⟨Nat.le_of_ble_eq_true rfl, Nat.le_of_ble_eq_true rfl⟩) rfl hl.1 rfl (Nat.le_of_ble_eq_true rfl) dL_law_31 ⟨Nat.le_of_ble_eq_true rfl, Nat.le_of_ble_eq_true rfl⟩ (fun H locs hP hD hS => ?_)
  have hd0 := @drw_lt L xs 0
  generalize drw L xs 0 = d0 at hd0 ⊢
  refine lv_bipush (v := nI 31) hx hb dL_law_34 (by decide) ?_
  refine lv_rem (x := d0) (d := 31) hx hb rfl rfl dL_law_36 (by omega) (by omega) (by omega) ?_
  refine lv_sum (x := 14) (d := d0 % 31) hx hb rfl rfl dL_law_37 ?_
  refine lv_istore (lv' := [(5, .int (nI (14 + d0 % 31))), (4, .ref qw), (3, .ref qm), (2, .ref (v 0)), (1, .ref (u 0)), (0, .ref b)]) hx hb dL_law_38 hl (by decide) rfl (fun ls hl => ?_)
  refine lv_iconst (v := nI 1) hx hb dL_law_40 (by decide) ?_
  refine lv_istore (lv' := [(6, .int (nI 1)), (5, .int (nI (14 + d0 % 31))), (4, .ref qw), (3, .ref qm), (2, .ref (v 0)), (1, .ref (u 0)), (0, .ref b)]) hx hb dL_law_41 hl (by decide) rfl (fun ls hl => ?_)
  refine lv_iconst (v := nI 0) hx hb dL_law_43 (by decide) ?_
  refine lv_istore (lv' := [(7, .int (nI 0)), (6, .int (nI 1)), (5, .int (nI (14 + d0 % 31))), (4, .ref qw), (3, .ref qm), (2, .ref (v 0)), (1, .ref (u 0)), (0, .ref b)]) hx hb dL_law_44 hl (by decide) rfl (fun ls hl => ?_)
  exact law_loop (T := 14 + d0 % 31) hr hlocks F hK hEB hEZ (tr_of hflags) hX hbl hL (by omega) 100 0 0 0 z0 z0 z0 0 (fun _ => 0) (fun _ => 0) H locs ls (by omega) (by omega) inv_init hP hD hS (lv_sub hl [7, 6, 5, 4, 3, 2, 1, 0] rfl)
