
def srch {α : Type} (f : Nat → Option α) : Nat → Nat → Option α
  | 0, _ => none
  | k + 1, i => match f i with
    | some x => some x
    | none => srch f k (i + 1)
theorem srch_y {α : Type} {f : Nat → Option α} {x : α} : ∀ {k i : Nat}, srch f k i = some x → ∃ j, i ≤ j ∧ j < i + k ∧ f j = some x ∧ ∀ l, i ≤ l → l < j → f l = none
  | 0, i, h => by cases h
  | k + 1, i, h => by
    rw [srch] at h
    cases e : f i with
    | some y =>
      rw [e] at h
      exact ⟨i, Nat.le_refl _, by omega, e.trans h, fun l h1 h2 => absurd h2 (by omega)⟩
    | none =>
      rw [e] at h
      obtain ⟨j, h1, h2, h3, h4⟩ := srch_y h
      refine ⟨j, by omega, by omega, h3, fun l g1 g2 => ?_⟩
      rcases Nat.lt_or_ge i l with w | w
      · exact h4 l w g2
      · have : l = i := by omega
        rw [this]; exact e
theorem srch_n {α : Type} {f : Nat → Option α} : ∀ {k i : Nat}, srch f k i = none → ∀ j, i ≤ j → j < i + k → f j = none
  | 0, i, _, j, h1, h2 => absurd h2 (by omega)
  | k + 1, i, h, j, h1, h2 => by
    rw [srch] at h
    cases e : f i with
    | some y => rw [e] at h; cases h
    | none =>
      rw [e] at h
      rcases Nat.lt_or_ge i j with w | w
      · exact srch_n h j w (by omega)
      · have : j = i := by omega
        rw [this]; exact e
abbrev hit (M : Nat → Nat → Int32) (cu : Int32) (sm : Int64) (n mn o t h : Nat) : Prop := ¬ mdo M cu n o < 0 ∧ (¬ mdo M cu n t < 0 ↔ 1 < mn) ∧ (¬ mdo M cu n h < 0 ↔ 2 < mn) ∧ (mdo M cu n o).toInt64 + (if mdo M cu n t < 0 then 0 else mdo M cu n t).toInt64 + (if mdo M cu n h < 0 then 0 else mdo M cu n h).toInt64 = sm
def f3 (M : Nat → Nat → Int32) (cu : Int32) (sm : Int64) (n mn o t : Nat) (h : Nat) : Option Nat := if hit M cu sm n mn o t h then some h else none
def f2 (M : Nat → Nat → Int32) (cu : Int32) (sm : Int64) (n mn o : Nat) (t : Nat) : Option (Nat × Nat) := (srch (f3 M cu sm n mn o t) (41 - (if 2 < mn then t + 1 else 40)) (if 2 < mn then t + 1 else 40)).map (fun h => (t, h))
def f1 (M : Nat → Nat → Int32) (cu : Int32) (sm : Int64) (n mn : Nat) (o : Nat) : Option (Nat × Nat × Nat) := (srch (f2 M cu sm n mn o) (41 - (if 1 < mn then o + 1 else 40)) (if 1 < mn then o + 1 else 40)).map (fun x => (o, x))
def f0 (M : Nat → Nat → Int32) (cu : Int32) (sm : Int64) (n : Nat) (mn : Nat) : Option (Nat × Nat × Nat × Nat) := (srch (f1 M cu sm n mn) n 0).map (fun x => (mn, x))
/-- the set of step 2: how many, and its bills -/
def mcs (M : Nat → Nat → Int32) (cu : Int32) (sm : Int64) (n : Nat) : Option (Nat × Nat × Nat × Nat) := srch (f0 M cu sm n) 3 1
def mcN : Option (Nat × Nat × Nat × Nat) → Nat
  | none => 0
  | some (mn, _) => mn
def mcS (M : Nat → Nat → Int32) : Option (Nat × Nat × Nat × Nat) → Nat → Nat → Int32
  | none => M
  | some (mn, o, t, h) => pt (pt (pt M 23 0 (nI o)) 23 1 (if 1 < mn then nI t else -1)) 23 2 (if 2 < mn then nI h else -1)
theorem mcS_o {M : Nat → Nat → Int32} {x : Option (Nat × Nat × Nat × Nat)} {k i : Nat} (h : k ≠ 23) : mcS M x k i = M k i := by
  cases x with
  | none => rfl
  | some y =>
    obtain ⟨mn, o, t, g⟩ := y
    show pt (pt (pt M 23 0 (nI o)) 23 1 (if 1 < mn then nI t else -1)) 23 2 (if 2 < mn then nI g else -1) k i = M k i
    rw [pt_o (fun z => h z.1), pt_o (fun z => h z.1), pt_o (fun z => h z.1)]
theorem om_s {α β : Type} {x : Option α} {f : α → β} {y : β} (h : x.map f = some y) : ∃ a, x = some a ∧ f a = y := by
  cases x with
  | none => cases h
  | some a => exact ⟨a, rfl, Option.some.inj h⟩
/-- what is found is a set -/
theorem mcs_s {M : Nat → Nat → Int32} {cu : Int32} {sm : Int64} {n mn o t h : Nat} (e : mcs M cu sm n = some (mn, o, t, h)) : 1 ≤ mn ∧ mn ≤ 3 ∧ o < n ∧ hit M cu sm n mn o t h := by
  obtain ⟨j0, a1, a2, a3, -⟩ := srch_y e
  obtain ⟨x1, b1, b2⟩ := om_s a3
  cases b2
  obtain ⟨j1, c1, c2, c3, -⟩ := srch_y b1
  obtain ⟨x2, d1, d2⟩ := om_s c3
  cases d2
  obtain ⟨j2, e1, e2, e3, -⟩ := srch_y d1
  obtain ⟨x3, g1, g2⟩ := om_s e3
  cases g2
  obtain ⟨j3, k1, k2, k3, -⟩ := srch_y g1
  unfold f3 at k3
  by_cases z : hit M cu sm n mn o t j3
  · rw [if_pos z] at k3
    cases k3
    exact ⟨a1, by omega, by omega, z⟩
  · rw [if_neg z] at k3
    cases k3
theorem mdo_n {M : Nat → Nat → Int32} {cu : Int32} {n b : Nat} (h : ¬ mdo M cu n b < 0) : b < n := by
  unfold mdo at h
  by_cases z : b < n ∧ M 3 b = cu ∧ ¬ mopn M b ≤ 0
  · exact z.1
  · rw [if_neg z] at h
    exact absurd (by decide) h
theorem mcs_y (M : Nat → Nat → Int32) (cu : Int32) (sm : Int64) (n : Nat) : mcN (mcs M cu sm n) ≤ 3 ∧ ∀ j, j < mcN (mcs M cu sm n) → ∃ x, x < n ∧ mcS M (mcs M cu sm n) 23 j = nI x := by
  cases e : mcs M cu sm n with
  | none => exact ⟨by decide, fun j hj => absurd hj (Nat.not_lt_zero _)⟩
  | some y =>
    obtain ⟨mn, o, t, h⟩ := y
    obtain ⟨h1, h2, h3, h4⟩ := mcs_s e
    refine ⟨h2, fun j hj => ?_⟩
    have hj : j < mn := hj
    rcases (show j = 0 ∨ j = 1 ∨ j = 2 by omega) with rfl | rfl | rfl
    · exact ⟨o, h3, rfl⟩
    · refine ⟨t, mdo_n (h4.2.1.mpr hj), ?_⟩
      show (if 1 < mn then nI t else -1) = nI t
      rw [if_pos hj]
    · refine ⟨h, mdo_n (h4.2.2.1.mpr hj), ?_⟩
      show (if 2 < mn then nI h else -1) = nI h
      rw [if_pos hj]
theorem mpay_6 {M : Nat → Nat → Int32} {rc b i : Nat} : mpay M rc b 6 i = M 6 i := mpay_o (by decide)
theorem mpay_23 {M : Nat → Nat → Int32} {rc b i : Nat} : mpay M rc b 23 i = M 23 i := mpay_o (by decide)
/-- the chosen bills are paid -/
def mex (rc : Nat) : Nat → Nat → (Nat → Nat → Int32) → Nat → Nat → Int32
  | 0, _, M => M
  | f + 1, k, M => mex rc f (k + 1) (mpay M rc (M 23 k).toNatClampNeg)
abbrev opq (M : Nat → Nat → Int32) (cv : Int32) (i : Nat) : Prop := M 3 i = cv ∧ ¬ mopn M i ≤ 0
/-- the oldest bills are paid -/
def mold (rc : Nat) (cv : Int32) : Nat → Nat → (Nat → Nat → Int32) → Nat → Nat → Int32
  | 0, _, M => M
  | k + 1, i, M => if M 18 rc ≤ 0 then M else if opq M cv i then mold rc cv k (i + 1) (mpay M rc i) else mold rc cv k (i + 1) M
theorem mold_d {rc : Nat} {cv : Int32} {M : Nat → Nat → Int32} {k i : Nat} (h : M 18 rc ≤ 0) : mold rc cv k i M = M := by
  cases k with
  | zero => rfl
  | succ k => rw [mold, if_pos h]
theorem mold_s {rc : Nat} {cv : Int32} {M : Nat → Nat → Int32} : ∀ {k i : Nat}, (∀ j, i ≤ j → j < i + k → ¬ opq M cv j) → mold rc cv k i M = M
  | 0, _, _ => rfl
  | k + 1, i, h => by
    rw [mold]
    split
    · rfl
    · rw [if_neg (h i (Nat.le_refl _) (by omega))]
      exact mold_s (fun j h1 h2 => h j (by omega) (by omega))
theorem mold_f {rc : Nat} {cv : Int32} {M : Nat → Nat → Int32} {j : Nat} (hl : ¬ M 18 rc ≤ 0) : ∀ {k i : Nat}, i ≤ j → j < i + k → opq M cv j → (∀ l, i ≤ l → l < j → ¬ opq M cv l) → mold rc cv k i M = mold rc cv (i + k - (j + 1)) (j + 1) (mpay M rc j)
  | 0, i, h1, h2, _, _ => absurd h2 (by omega)
  | k + 1, i, h1, h2, h3, h4 => by
    rw [mold, if_neg hl]
    rcases Nat.lt_or_ge i j with w | w
    · rw [if_neg (h4 i (Nat.le_refl _) w), mold_f hl (i := i + 1) w (by omega) h3 (fun l g1 g2 => h4 l (by omega) g2), show i + 1 + k - (j + 1) = i + (k + 1) - (j + 1) by omega]
    · have : i = j := by omega
      subst this
      rw [if_pos h3, show i + (k + 1) - (i + 1) = k by omega]
def moth (M : Nat → Nat → Int32) (rc n : Nat) : Nat → Nat → Int32 := if M 17 rc = -1 ∨ M 18 rc = 0 then M else mold rc (M 17 rc) n 0 (mex rc (mcN (mcs M (M 17 rc) (M 18 rc).toInt64 n)) 0 (mcS M (mcs M (M 17 rc) (M 18 rc).toInt64 n)))
/-- what the inner loop has found -/
def NX (M : Nat → Nat → Int32) (cv : Int32) (i0 i : Nat) : Option Nat → Prop
  | none => ∀ j, i0 ≤ j → j < i → ¬ opq M cv j
  | some j => i0 ≤ j ∧ j < i ∧ opq M cv j ∧ ∀ k, i0 ≤ k → k < j → ¬ opq M cv k
theorem nx0 {M : Nat → Nat → Int32} {cv : Int32} {i0 : Nat} : NX M cv i0 0 none := fun j _ h => absurd h (Nat.not_lt_zero _)
theorem nxj {M : Nat → Nat → Int32} {cv : Int32} {i0 i j : Nat} (h : NX M cv i0 i (some j)) : i0 ≤ j ∧ j < i ∧ opq M cv j ∧ ∀ k, i0 ≤ k → k < j → ¬ opq M cv k := h
theorem nxs {M : Nat → Nat → Int32} {cv : Int32} {i0 i j : Nat} (h : NX M cv i0 i (some j)) : NX M cv i0 (i + 1) (some j) := ⟨h.1, Nat.lt_succ_of_lt h.2.1, h.2.2⟩
theorem nxk {M : Nat → Nat → Int32} {cv : Int32} {i0 i : Nat} {x : Option Nat} (h : NX M cv i0 i x) (hn : ¬ (i0 ≤ i ∧ opq M cv i)) : NX M cv i0 (i + 1) x := by
  cases x with
  | none =>
    intro j h1 h2 h3
    rcases Nat.lt_or_ge j i with w | w
    · exact h j h1 w h3
    · have : j = i := by omega
      subst this
      exact hn ⟨h1, h3⟩
  | some j => exact nxs h
theorem nxt {M : Nat → Nat → Int32} {cv : Int32} {i0 i : Nat} (h : NX M cv i0 i none) (h1 : i0 ≤ i) (h2 : opq M cv i) : NX M cv i0 (i + 1) (some i) := ⟨h1, Nat.lt_succ_self _, h2, fun k g1 g2 => h k g1 g2⟩
theorem oI_n2 {M : Nat → Nat → Int32} {cv : Int32} {i0 i n : Nat} {x : Option Nat} (h : NX M cv i0 i x) (hin : i ≤ n) (hn : n ≤ 40) (e : oI x = -1) : x = none :=
  oI_n' (fun q hq => by subst hq; have := (nxj h).2.1; omega) e
theorem later {M : Nat → Nat → Int32} {i0 n i : Nat} {la ld : Int32} (hla : (i0 = 0 ∧ la = -1 ∧ ld = -1) ∨ ∃ j, i0 = j + 1 ∧ j < n ∧ la = nI j ∧ ld = M 6 j) (hsp : (∀ i j, i ≤ j → j < n → M 6 i ≤ M 6 j) ∧ ∀ i, i < n → 0 ≤ M 6 i) (hn : n ≤ 40) (hi : i < n) : (ld < M 6 i ∨ (M 6 i = ld ∧ la < nI i)) ↔ i0 ≤ i := by
  rcases hla with ⟨rfl, rfl, rfl⟩ | ⟨j, rfl, hj, rfl, rfl⟩
  · refine ⟨fun _ => Nat.zero_le _, fun _ => Or.inl ?_⟩
    have h0 := hsp.2 i hi
    rw [Int32.le_iff_toInt_le] at h0
    rw [Int32.lt_iff_toInt_lt]
    have e0 : (0 : Int32).toInt = 0 := by decide
    have e1 : (-1 : Int32).toInt = -1 := by decide
    omega
  · constructor
    · rintro (h | ⟨h1, h2⟩)
      · rcases Nat.lt_or_ge j i with w | w
        · omega
        · exact absurd h (not_lt_of_ge32 (hsp.1 i j w hj))
      · have := (nI_ltI (by omega) (by omega)).mp h2
        omega
    · intro h
      have h1 := hsp.1 j i (by omega) hi
      by_cases e : M 6 i = M 6 j
      · exact Or.inr ⟨e, (nI_ltI (by omega) (by omega)).mpr (by omega)⟩
      · refine Or.inl ?_
        rw [Int32.le_iff_toInt_le] at h1
        rw [Int32.lt_iff_toInt_lt]
        have e2 : (M 6 i).toInt ≠ (M 6 j).toInt := fun z => e (Int32.toInt_inj.mp z)
        omega
set_option maxHeartbeats 4000000 in
set_option maxRecDepth 100000 in
theorem c_X4_choose (l : Launch) (D : va_G) (cI cZ : ClassId) (a : Nat → Nat) (sz : Nat) (M : Nat → Nat → Int32) (cu : Int32) (sm : Int64) (n : Nat) (hM : M 2 0 = nI n) (hn : n ≤ 40) : Met l yX4_choose wsX4_choose ({ frames := 4, cells := 0, slots := 0, locals := 86 } : Room) (va_Pc [.ref (a 0), .int (cu), .long (sm)] (PreW D cI cZ (wM a cI cZ M) sz)) (va_Qi (fun (r : Int32) (u : Nat → Nat → Int32) => r = nI (mcN (mcs M cu sm n)) ∧ u = mcS M (mcs M cu sm n)) (fun (u : Nat → Nat → Int32) => PostW D cI cZ (va_A (wM a cI cZ M) sz) (wM a cI cZ u)) (va_A (wM a cI cZ M) sz)) 0 0 (va_A (wM a cI cZ M) sz) := by
  refine Met.ofW (cc := cX4_choose) (maxL := 12) (ret := (some .int)) (by decide) rfl ?_
  intro p e s m args below meth c s₁ BB hml hv
  obtain ⟨rfl, hsz, hP, hK, hD0⟩ := hv
  have hx := BB.exec
  have hb := BB.bytes
  have hr := BB.returns
  have hts := atoms_spec (ws := wsX4_choose) BB.pre
  have hown : s.vm.findClass RX4 = some m.cls := findClass_of_methodNamed BB.named
  have hlocks := BB.notSynchronized
  clear BB
  subst hsz
  have hD := hD0.self (sz := s.heap.size)
  clear hD0
  generalize hAe : va_A (wM a cI cZ M) s.heap.size = A at hD ⊢
  have hA : ∀ q : Nat, s.heap.size ≤ q → A q := fun q h => by rw [← hAe]; exact Or.inr h
  clear hAe
  have hS : va_S A s.heap s.heap [] := va_S.rf
  have hl := lv_entry ([.ref (a 0), .int (cu), .long (sm)]) (n := 12) (Nat.le_of_ble_eq_true rfl)
  rw [lg_entry_eq]
  generalize (lg_sl ([.ref (a 0), .int (cu), .long (sm)]) ++ List.replicate (12 - (lg_sl ([.ref (a 0), .int (cu), .long (sm)])).length) Slot.unset).toArray = ls at hl ⊢
  have hl : lv_has ls 12 [(0, .ref (a 0)), (1, .int (cu)), (2, .long (sm))] := hl
  generalize hHe : s.heap = H at hP
  have hS : va_S A s.heap H [] := by rw [← hHe]; exact va_S.rf
  clear hHe
  generalize hLe : ([] : List Loc) = locs at hS ⊢
  clear hLe
  refine lv_iconst (v := nI (1)) hx hb dX4_choose_0 (by decide) ?_
  refine lv_istore (lv' := [(4, .int (nI (1))), (0, .ref (a 0)), (1, .int (cu)), (2, .long (sm))]) hx hb dX4_choose_1 hl (by decide) rfl (fun ls hl => ?_)
  have loop3 : ∀ (fu : Nat) (mn : Nat) (hm1 : 1 ≤ mn) (hm4 : mn ≤ 4) (hg0 : srch (f0 M cu sm n) 3 1 = srch (f0 M cu sm n) (4 - mn) mn) (hfu : 4 - mn < fu) (H : Heap) (locs : List Loc) (hP : va_P D vwCl (wM a cI cZ M) H) (hD : va_D A (wM a cI cZ M)) (hS : va_S A s.heap H locs) (ls : Array Slot) (hl : lv_has ls 12 [(4, .int (nI (mn))), (0, .ref (a 0)), (1, .int (cu)), (2, .long (sm))]), W p l e (headSpec wsX4_choose ({ frames := 4, cells := 0, slots := 0, locals := 86 } : Room)).room s m ([.ref (a 0), .int (cu), .long (sm)] : List Value).toArray below meth c H locs 0 0 (MQ below (va_Qi (fun (r : Int32) (u : Nat → Nat → Int32) => r = nI (mcN (mcs M cu sm n)) ∧ u = mcS M (mcs M cu sm n)) (fun (u : Nat → Nat → Int32) => PostW D cI cZ A (wM a cI cZ u)) A) ([.ref (a 0), .int (cu), .long (sm)] : List Value).toArray s 0 0 A) (F0 m 3 ls []) := by
    clear hP hD hS hl
    intro fu3
    induction fu3 with
    | zero => intro mn hm1 hm4 hg0 hfu; exact absurd hfu (Nat.not_lt_zero _)
    | succ fu3 ih3 =>
      intro mn hm1 hm4 hg0 hfu H locs hP hD hS ls hl
      refine lv_iload hx hb dX4_choose_3 (lv_at hl 0 rfl) ?_
      refine lv_iconst (v := nI (3)) hx hb dX4_choose_5 (by decide) ?_
      refine lv_icmp_gt (tgt := 266) hx hb dX4_choose_6 (by decide) (fun c6 => ?_) (fun c6 => ?_)
      · -- 6 taken
        rw [nI_ltI (by omega) (by omega)] at c6
        have r0 : mcs M cu sm n = none := by unfold mcs; rw [hg0, show 4 - mn = 0 by omega]; rfl
        refine lv_iconst (v := 0) hx hb dX4_choose_266 (by decide) ?_
        exact W.iret (v := 0) hx hb hr (fun t ht hW => ⟨⟨0, M, rfl, ⟨by rw [r0]; rfl, by rw [r0]; rfl⟩, by rw [ht]; exact hP, va_K.moved hW.alike hK, hD⟩, hS.F ht⟩) hS.2.2 dX4_choose_267
      · -- 6 on
        rw [nI_ltI (by omega) (by omega)] at c6
        refine lv_iconst (v := nI (0)) hx hb dX4_choose_9 (by decide) ?_
        refine lv_istore (lv' := [(5, .int (nI (0))), (4, .int (nI (mn))), (0, .ref (a 0)), (1, .int (cu)), (2, .long (sm))]) hx hb dX4_choose_10 hl (by decide) rfl (fun ls hl => ?_)
        have loop12 : ∀ (fu : Nat) (o : Nat) (hon : o ≤ n) (hg1 : srch (f1 M cu sm n mn) n 0 = srch (f1 M cu sm n mn) (n - o) o) (hfu : n - o < fu) (H : Heap) (locs : List Loc) (hP : va_P D vwCl (wM a cI cZ M) H) (hD : va_D A (wM a cI cZ M)) (hS : va_S A s.heap H locs) (ls : Array Slot) (hl : lv_has ls 12 [(5, .int (nI (o))), (4, .int (nI (mn))), (0, .ref (a 0)), (1, .int (cu)), (2, .long (sm))]), W p l e (headSpec wsX4_choose ({ frames := 4, cells := 0, slots := 0, locals := 86 } : Room)).room s m ([.ref (a 0), .int (cu), .long (sm)] : List Value).toArray below meth c H locs 0 0 (MQ below (va_Qi (fun (r : Int32) (u : Nat → Nat → Int32) => r = nI (mcN (mcs M cu sm n)) ∧ u = mcS M (mcs M cu sm n)) (fun (u : Nat → Nat → Int32) => PostW D cI cZ A (wM a cI cZ u)) A) ([.ref (a 0), .int (cu), .long (sm)] : List Value).toArray s 0 0 A) (F0 m 12 ls []) := by
          clear hP hD hS hl
          intro fu12
          induction fu12 with
          | zero => intro o hon hg1 hfu; exact absurd hfu (Nat.not_lt_zero _)
          | succ fu12 ih12 =>
            intro o hon hg1 hfu H locs hP hD hS ls hl
            refine lv_iload hx hb dX4_choose_12 (lv_at hl 0 rfl) ?_
            refine lv_aload_n hx hb dX4_choose_14 rfl (lv_at hl 2 rfl) ?_
            refine va_get (D := D) (ci := 4) (v := .int (nI (n))) (C := RX4) (T := TX4) (N := 24) hx hb hts (fun w h => List.mem_cons_of_mem _ (List.mem_append_right _ h)) hown hK hP 0 rfl rfl 2 (by decide) (hts (.fieldLink RX4 79 "CashAllocatorModel" "bills" "I") (by decide +kernel)) (fun _ h9 => h9) (congrArg (fun z => some (Value.int z)) hM) dX4_choose_15 ?_
            refine lv_icmp_ge (tgt := 260) hx hb dX4_choose_18 (by decide) (fun c18 => ?_) (fun c18 => ?_)
            · -- 18 taken
              rw [nI_leI (by omega) (by omega)] at c18
              have hg0b : srch (f0 M cu sm n) 3 1 = srch (f0 M cu sm n) (4 - (mn + 1)) (mn + 1) := by rw [hg0, show 4 - mn = (4 - (mn + 1)) + 1 by omega, srch, show f0 M cu sm n mn = none by unfold f0; rw [hg1, show n - o = 0 by omega]; rfl]
              refine lv_iinc (v := nI (mn + 1)) (lv' := [(4, .int (nI (mn + 1))), (5, .int (nI (o))), (0, .ref (a 0)), (1, .int (cu)), (2, .long (sm))]) hx hb dX4_choose_260 hl (k := 1) rfl (nI_1 _) (by decide) rfl (fun ls hl => ?_)
              refine lv_goto (tgt := 3) hx hb dX4_choose_263 (by decide) ?_
              exact ih3 (mn + 1) (by omega) (by omega) hg0b (by omega) _ _ hP hD hS _ (lv_sub hl [0, 2, 3, 4] rfl)
            · -- 18 on
              rw [nI_leI (by omega) (by omega)] at c18
              have loop38 : ∀ (fu : Nat) (tw : Nat) (ht41 : tw ≤ 41) (hg2 : srch (f2 M cu sm n mn o) (41 - (if 1 < mn then o + 1 else 40)) (if 1 < mn then o + 1 else 40) = srch (f2 M cu sm n mn o) (41 - tw) tw) (hfu : 41 - tw < fu) (H : Heap) (locs : List Loc) (hP : va_P D vwCl (wM a cI cZ M) H) (hD : va_D A (wM a cI cZ M)) (hS : va_S A s.heap H locs) (ls : Array Slot) (hl : lv_has ls 12 [(6, .int (nI (tw))), (5, .int (nI (o))), (4, .int (nI (mn))), (0, .ref (a 0)), (1, .int (cu)), (2, .long (sm))]), W p l e (headSpec wsX4_choose ({ frames := 4, cells := 0, slots := 0, locals := 86 } : Room)).room s m ([.ref (a 0), .int (cu), .long (sm)] : List Value).toArray below meth c H locs 0 0 (MQ below (va_Qi (fun (r : Int32) (u : Nat → Nat → Int32) => r = nI (mcN (mcs M cu sm n)) ∧ u = mcS M (mcs M cu sm n)) (fun (u : Nat → Nat → Int32) => PostW D cI cZ A (wM a cI cZ u)) A) ([.ref (a 0), .int (cu), .long (sm)] : List Value).toArray s 0 0 A) (F0 m 38 ls []) := by
                clear hP hD hS hl
                intro fu38
                induction fu38 with
                | zero => intro tw ht41 hg2 hfu; exact absurd hfu (Nat.not_lt_zero _)
                | succ fu38 ih38 =>
                  intro tw ht41 hg2 hfu H locs hP hD hS ls hl
                  refine lv_iload hx hb dX4_choose_38 (lv_at hl 0 rfl) ?_
                  refine lv_bipush (v := nI (40)) hx hb dX4_choose_40 (by decide) ?_
                  refine lv_icmp_gt (tgt := 254) hx hb dX4_choose_42 (by decide) (fun c42 => ?_) (fun c42 => ?_)
                  · -- 42 taken
                    rw [nI_ltI (by omega) (by omega)] at c42
                    have hg1b : srch (f1 M cu sm n mn) n 0 = srch (f1 M cu sm n mn) (n - (o + 1)) (o + 1) := by rw [hg1, show n - o = (n - (o + 1)) + 1 by omega, srch, show f1 M cu sm n mn o = none by unfold f1; rw [hg2, show 41 - tw = 0 by omega]; rfl]
                    refine lv_iinc (v := nI (o + 1)) (lv' := [(5, .int (nI (o + 1))), (6, .int (nI (tw))), (4, .int (nI (mn))), (0, .ref (a 0)), (1, .int (cu)), (2, .long (sm))]) hx hb dX4_choose_254 hl (k := 1) rfl (nI_1 _) (by decide) rfl (fun ls hl => ?_)
                    refine lv_goto (tgt := 12) hx hb dX4_choose_257 (by decide) ?_
                    exact ih12 (o + 1) (by omega) hg1b (by omega) _ _ hP hD hS _ (lv_sub hl [0, 2, 3, 4, 5] rfl)
                  · -- 42 on
                    rw [nI_ltI (by omega) (by omega)] at c42
                    have loop62 : ∀ (fu : Nat) (h : Nat) (hh41 : h ≤ 41) (hg3 : srch (f3 M cu sm n mn o tw) (41 - (if 2 < mn then tw + 1 else 40)) (if 2 < mn then tw + 1 else 40) = srch (f3 M cu sm n mn o tw) (41 - h) h) (hfu : 41 - h < fu) (H : Heap) (locs : List Loc) (hP : va_P D vwCl (wM a cI cZ M) H) (hD : va_D A (wM a cI cZ M)) (hS : va_S A s.heap H locs) (ls : Array Slot) (hl : lv_has ls 12 [(7, .int (nI (h))), (6, .int (nI (tw))), (5, .int (nI (o))), (4, .int (nI (mn))), (0, .ref (a 0)), (1, .int (cu)), (2, .long (sm))]), W p l e (headSpec wsX4_choose ({ frames := 4, cells := 0, slots := 0, locals := 86 } : Room)).room s m ([.ref (a 0), .int (cu), .long (sm)] : List Value).toArray below meth c H locs 0 0 (MQ below (va_Qi (fun (r : Int32) (u : Nat → Nat → Int32) => r = nI (mcN (mcs M cu sm n)) ∧ u = mcS M (mcs M cu sm n)) (fun (u : Nat → Nat → Int32) => PostW D cI cZ A (wM a cI cZ u)) A) ([.ref (a 0), .int (cu), .long (sm)] : List Value).toArray s 0 0 A) (F0 m 62 ls []) := by
                      clear hP hD hS hl
                      intro fu62
                      induction fu62 with
                      | zero => intro h hh41 hg3 hfu; exact absurd hfu (Nat.not_lt_zero _)
                      | succ fu62 ih62 =>
                        intro h hh41 hg3 hfu H locs hP hD hS ls hl
                        refine lv_iload hx hb dX4_choose_62 (lv_at hl 0 rfl) ?_
                        refine lv_bipush (v := nI (40)) hx hb dX4_choose_64 (by decide) ?_
                        refine lv_icmp_gt (tgt := 248) hx hb dX4_choose_66 (by decide) (fun c66 => ?_) (fun c66 => ?_)
                        · -- 66 taken
                          rw [nI_ltI (by omega) (by omega)] at c66
                          have hg2b : srch (f2 M cu sm n mn o) (41 - (if 1 < mn then o + 1 else 40)) (if 1 < mn then o + 1 else 40) = srch (f2 M cu sm n mn o) (41 - (tw + 1)) (tw + 1) := by rw [hg2, show 41 - tw = (41 - (tw + 1)) + 1 by omega, srch, show f2 M cu sm n mn o tw = none by unfold f2; rw [hg3, show 41 - h = 0 by omega]; rfl]
                          refine lv_iinc (v := nI (tw + 1)) (lv' := [(6, .int (nI (tw + 1))), (7, .int (nI (h))), (5, .int (nI (o))), (4, .int (nI (mn))), (0, .ref (a 0)), (1, .int (cu)), (2, .long (sm))]) hx hb dX4_choose_248 hl (k := 1) rfl (nI_1 _) (by decide) rfl (fun ls hl => ?_)
                          refine lv_goto (tgt := 38) hx hb dX4_choose_251 (by decide) ?_
                          exact ih38 (tw + 1) (by omega) hg2b (by omega) _ _ hP hD hS _ (lv_sub hl [0, 2, 3, 4, 5, 6] rfl)
                        · -- 66 on
                          rw [nI_ltI (by omega) (by omega)] at c66
                          refine lv_aload_n hx hb dX4_choose_69 rfl (lv_at hl 4 rfl) ?_
                          refine lv_iload_n hx hb dX4_choose_70 rfl (lv_at hl 5 rfl) ?_
                          refine lv_iload hx hb dX4_choose_71 (lv_at hl 2 rfl) ?_
                          refine zcVi (ci := 4) (q0 := 0) (wf := (fun (u : Unit) => (wM a cI cZ M))) (List.range 21) ⟨hx, hb, hml, hown, hts⟩ (zwAll 21 (by decide) rfl hP hD hS hA) hK (c_X4_dueOf l D cI cZ a H.size (M) (cu) (o) (n) (by first | assumption | omega) (by first | assumption | omega) (by first | assumption | omega)) (cwV 2 hts gX4_choose_X4_dueOf rfl rfl rfl (by decide +kernel) ⟨Nat.le_of_ble_eq_true rfl, Nat.le_of_ble_eq_true rfl⟩) rfl rfl (by decide) (fun _ => rfl) rfl hl.1 rfl (Nat.le_of_ble_eq_true rfl) dX4_choose_73 ⟨Nat.le_of_ble_eq_true rfl, Nat.le_of_ble_eq_true rfl⟩ (fun r73 u H locs hw hP hD hS => ?_)
                          subst hw
                          refine lv_istore (lv' := [(8, .int (mdo (M) (cu) n (o))), (7, .int (nI (h))), (6, .int (nI (tw))), (5, .int (nI (o))), (4, .int (nI (mn))), (0, .ref (a 0)), (1, .int (cu)), (2, .long (sm))]) hx hb dX4_choose_76 hl (by decide) rfl (fun ls hl => ?_)
                          refine lv_aload_n hx hb dX4_choose_78 rfl (lv_at hl 5 rfl) ?_
                          refine lv_iload_n hx hb dX4_choose_79 rfl (lv_at hl 6 rfl) ?_
                          refine lv_iload hx hb dX4_choose_80 (lv_at hl 2 rfl) ?_
                          refine zcVi (ci := 4) (q0 := 0) (wf := (fun (u : Unit) => (wM a cI cZ M))) (List.range 21) ⟨hx, hb, hml, hown, hts⟩ (zwAll 21 (by decide) rfl hP hD hS hA) hK (c_X4_dueOf l D cI cZ a H.size (M) (cu) (tw) (n) (by first | assumption | omega) (by first | assumption | omega) (by first | assumption | omega)) (cwV 2 hts gX4_choose_X4_dueOf rfl rfl rfl (by decide +kernel) ⟨Nat.le_of_ble_eq_true rfl, Nat.le_of_ble_eq_true rfl⟩) rfl rfl (by decide) (fun _ => rfl) rfl hl.1 rfl (Nat.le_of_ble_eq_true rfl) dX4_choose_82 ⟨Nat.le_of_ble_eq_true rfl, Nat.le_of_ble_eq_true rfl⟩ (fun r82 u H locs hw hP hD hS => ?_)
                          subst hw
                          refine lv_istore (lv' := [(9, .int (mdo (M) (cu) n (tw))), (8, .int (mdo (M) (cu) n (o))), (7, .int (nI (h))), (6, .int (nI (tw))), (5, .int (nI (o))), (4, .int (nI (mn))), (0, .ref (a 0)), (1, .int (cu)), (2, .long (sm))]) hx hb dX4_choose_85 hl (by decide) rfl (fun ls hl => ?_)
                          refine lv_aload_n hx hb dX4_choose_87 rfl (lv_at hl 6 rfl) ?_
                          refine lv_iload_n hx hb dX4_choose_88 rfl (lv_at hl 7 rfl) ?_
                          refine lv_iload hx hb dX4_choose_89 (lv_at hl 2 rfl) ?_
                          refine zcVi (ci := 4) (q0 := 0) (wf := (fun (u : Unit) => (wM a cI cZ M))) (List.range 21) ⟨hx, hb, hml, hown, hts⟩ (zwAll 21 (by decide) rfl hP hD hS hA) hK (c_X4_dueOf l D cI cZ a H.size (M) (cu) (h) (n) (by first | assumption | omega) (by first | assumption | omega) (by first | assumption | omega)) (cwV 2 hts gX4_choose_X4_dueOf rfl rfl rfl (by decide +kernel) ⟨Nat.le_of_ble_eq_true rfl, Nat.le_of_ble_eq_true rfl⟩) rfl rfl (by decide) (fun _ => rfl) rfl hl.1 rfl (Nat.le_of_ble_eq_true rfl) dX4_choose_91 ⟨Nat.le_of_ble_eq_true rfl, Nat.le_of_ble_eq_true rfl⟩ (fun r91 u H locs hw hP hD hS => ?_)
                          subst hw
                          refine lv_istore (lv' := [(10, .int (mdo (M) (cu) n (h))), (9, .int (mdo (M) (cu) n (tw))), (8, .int (mdo (M) (cu) n (o))), (7, .int (nI (h))), (6, .int (nI (tw))), (5, .int (nI (o))), (4, .int (nI (mn))), (0, .ref (a 0)), (1, .int (cu)), (2, .long (sm))]) hx hb dX4_choose_94 hl (by decide) rfl (fun ls hl => ?_)
                          refine lv_iload hx hb dX4_choose_96 (lv_at hl 2 rfl) ?_
                          refine lv_if_lt (tgt := 153) hx hb dX4_choose_98 (by decide) (fun c98 => ?_) (fun c98 => ?_)
                          · -- 98 taken
                            refine lv_iconst (v := 0) hx hb dX4_choose_153 (by decide) ?_
                            refine lv_istore (lv' := [(11, .int (0)), (10, .int (mdo (M) (cu) n (h))), (9, .int (mdo (M) (cu) n (tw))), (8, .int (mdo (M) (cu) n (o))), (7, .int (nI (h))), (6, .int (nI (tw))), (5, .int (nI (o))), (4, .int (nI (mn))), (0, .ref (a 0)), (1, .int (cu)), (2, .long (sm))]) hx hb dX4_choose_154 hl (by decide) rfl (fun ls hl => ?_)
                            refine lv_iload hx hb dX4_choose_156 (lv_at hl 0 rfl) ?_
                            refine lv_if_eq (tgt := 242) hx hb dX4_choose_158 (by decide) (fun c158 => ?_) (fun c158 => ?_)
                            · -- 158 taken
                              have hno : ¬ hit M cu sm n mn o tw h := fun z => z.1 c98
                              have hg4 : srch (f3 M cu sm n mn o tw) (41 - (if 2 < mn then tw + 1 else 40)) (if 2 < mn then tw + 1 else 40) = srch (f3 M cu sm n mn o tw) (41 - (h + 1)) (h + 1) := by rw [hg3, show 41 - h = (41 - (h + 1)) + 1 by omega, srch, show f3 M cu sm n mn o tw h = none from if_neg hno]
                              refine lv_iinc (v := nI (h + 1)) (lv' := [(7, .int (nI (h + 1))), (11, .int (0)), (10, .int (mdo (M) (cu) n (h))), (9, .int (mdo (M) (cu) n (tw))), (8, .int (mdo (M) (cu) n (o))), (6, .int (nI (tw))), (5, .int (nI (o))), (4, .int (nI (mn))), (0, .ref (a 0)), (1, .int (cu)), (2, .long (sm))]) hx hb dX4_choose_242 hl (k := 4) rfl (nI_1 _) (by decide) rfl (fun ls hl => ?_)
                              refine lv_goto (tgt := 62) hx hb dX4_choose_245 (by decide) ?_
                              exact ih62 (h + 1) (by omega) hg4 (by omega) _ _ hP hD hS _ (lv_sub hl [0, 5, 6, 7, 8, 9, 10] rfl)
                            · -- 158 on
                              exact absurd c158 (by decide)
                          · -- 98 on
                            refine lv_iload hx hb dX4_choose_101 (lv_at hl 1 rfl) ?_
                            refine lv_if_lt (tgt := 110) hx hb dX4_choose_103 (by decide) (fun c103 => ?_) (fun c103 => ?_)
                            · -- 103 taken
                              refine lv_iconst (v := 0) hx hb dX4_choose_110 (by decide) ?_
                              refine lv_iload hx hb dX4_choose_111 (lv_at hl 6 rfl) ?_
                              refine lv_iconst (v := nI (1)) hx hb dX4_choose_113 (by decide) ?_
                              refine lv_icmp_le (tgt := 121) hx hb dX4_choose_114 (by decide) (fun c114 => ?_) (fun c114 => ?_)
                              · -- 114 taken
                                rw [nI_leI (by omega) (by omega)] at c114
                                refine lv_iconst (v := 0) hx hb dX4_choose_121 (by decide) ?_
                                refine lv_icmp_ne (tgt := 153) hx hb dX4_choose_122 (by decide) (fun c122 => ?_) (fun c122 => ?_)
                                · -- 122 taken
                                  exact absurd c122 (by decide)
                                · -- 122 on
                                  refine lv_iload hx hb dX4_choose_125 (lv_at hl 0 rfl) ?_
                                  refine lv_if_lt (tgt := 134) hx hb dX4_choose_127 (by decide) (fun c127 => ?_) (fun c127 => ?_)
                                  · -- 127 taken
                                    refine lv_iconst (v := 0) hx hb dX4_choose_134 (by decide) ?_
                                    refine lv_iload hx hb dX4_choose_135 (lv_at hl 6 rfl) ?_
                                    refine lv_iconst (v := nI (2)) hx hb dX4_choose_137 (by decide) ?_
                                    refine lv_icmp_le (tgt := 145) hx hb dX4_choose_138 (by decide) (fun c138 => ?_) (fun c138 => ?_)
                                    · -- 138 taken
                                      rw [nI_leI (by omega) (by omega)] at c138
                                      refine lv_iconst (v := 0) hx hb dX4_choose_145 (by decide) ?_
                                      refine lv_icmp_ne (tgt := 153) hx hb dX4_choose_146 (by decide) (fun c146 => ?_) (fun c146 => ?_)
                                      · -- 146 taken
                                        exact absurd c146 (by decide)
                                      · -- 146 on
                                        refine lv_iconst (v := 1) hx hb dX4_choose_149 (by decide) ?_
                                        refine lv_goto (tgt := 154) hx hb dX4_choose_150 (by decide) ?_
                                        refine lv_istore (lv' := [(11, .int (1)), (10, .int (mdo (M) (cu) n (h))), (9, .int (mdo (M) (cu) n (tw))), (8, .int (mdo (M) (cu) n (o))), (7, .int (nI (h))), (6, .int (nI (tw))), (5, .int (nI (o))), (4, .int (nI (mn))), (0, .ref (a 0)), (1, .int (cu)), (2, .long (sm))]) hx hb dX4_choose_154 hl (by decide) rfl (fun ls hl => ?_)
                                        refine lv_iload hx hb dX4_choose_156 (lv_at hl 0 rfl) ?_
                                        refine lv_if_eq (tgt := 242) hx hb dX4_choose_158 (by decide) (fun c158 => ?_) (fun c158 => ?_)
                                        · -- 158 taken
                                          exact absurd c158 (by decide)
                                        · -- 158 on
                                          refine lv_iload hx hb dX4_choose_161 (lv_at hl 3 rfl) ?_
                                          refine lv_i2l (v := (mdo (M) (cu) n (o)).toInt64) hx hb dX4_choose_163 rfl ?_
                                          refine lv_iload hx hb dX4_choose_164 (lv_at hl 2 rfl) ?_
                                          refine lv_if_ge (tgt := 173) hx hb dX4_choose_166 (by decide) (fun c166 => ?_) (fun c166 => ?_)
                                          · -- 166 taken
                                            (first | omega | exact absurd c166 c103 | exact absurd c103 c166 | exact absurd (lt_of_nge32 c166) c103 | exact absurd (lt_of_nge32 c103) c166 | exact absurd c103 (not_lt_of_ge32 c166) | exact absurd c166 (not_lt_of_ge32 c103))
                                          · -- 166 on
                                            refine lv_iconst (v := 0) hx hb dX4_choose_169 (by decide) ?_
                                            refine lv_goto (tgt := 175) hx hb dX4_choose_170 (by decide) ?_
                                            refine lv_i2l (v := (0).toInt64) hx hb dX4_choose_175 rfl ?_
                                            refine lv_ladd hx hb dX4_choose_176 ?_
                                            refine lv_iload hx hb dX4_choose_177 (lv_at hl 1 rfl) ?_
                                            refine lv_if_ge (tgt := 186) hx hb dX4_choose_179 (by decide) (fun c179 => ?_) (fun c179 => ?_)
                                            · -- 179 taken
                                              (first | omega | exact absurd c179 c127 | exact absurd c127 c179 | exact absurd (lt_of_nge32 c179) c127 | exact absurd (lt_of_nge32 c127) c179 | exact absurd c127 (not_lt_of_ge32 c179) | exact absurd c179 (not_lt_of_ge32 c127))
                                            · -- 179 on
                                              refine lv_iconst (v := 0) hx hb dX4_choose_182 (by decide) ?_
                                              refine lv_goto (tgt := 188) hx hb dX4_choose_183 (by decide) ?_
                                              refine lv_i2l (v := (0).toInt64) hx hb dX4_choose_188 rfl ?_
                                              refine lv_ladd hx hb dX4_choose_189 ?_
                                              refine lv_lload_n hx hb dX4_choose_190 rfl (lv_at hl 10 rfl) ?_
                                              refine W.lcmp hx hb dX4_choose_191 ?_
                                              refine lv_if_ne (tgt := 242) hx hb dX4_choose_192 (by decide) (fun c192 => ?_) (fun c192 => ?_)
                                              · -- 192 taken
                                                have hno : ¬ hit M cu sm n mn o tw h := fun z => c192 ((lg_cmp_eq _ _).mpr (by have z4 := z.2.2.2; rw [if_pos c103, if_pos c127] at z4; exact z4))
                                                have hg4 : srch (f3 M cu sm n mn o tw) (41 - (if 2 < mn then tw + 1 else 40)) (if 2 < mn then tw + 1 else 40) = srch (f3 M cu sm n mn o tw) (41 - (h + 1)) (h + 1) := by rw [hg3, show 41 - h = (41 - (h + 1)) + 1 by omega, srch, show f3 M cu sm n mn o tw h = none from if_neg hno]
                                                refine lv_iinc (v := nI (h + 1)) (lv' := [(7, .int (nI (h + 1))), (11, .int (1)), (10, .int (mdo (M) (cu) n (h))), (9, .int (mdo (M) (cu) n (tw))), (8, .int (mdo (M) (cu) n (o))), (6, .int (nI (tw))), (5, .int (nI (o))), (4, .int (nI (mn))), (0, .ref (a 0)), (1, .int (cu)), (2, .long (sm))]) hx hb dX4_choose_242 hl (k := 4) rfl (nI_1 _) (by decide) rfl (fun ls hl => ?_)
                                                refine lv_goto (tgt := 62) hx hb dX4_choose_245 (by decide) ?_
                                                exact ih62 (h + 1) (by omega) hg4 (by omega) _ _ hP hD hS _ (lv_sub hl [0, 5, 6, 7, 8, 9, 10] rfl)
                                              · -- 192 on
                                                have hyes : hit M cu sm n mn o tw h := ⟨c98, ⟨fun z => absurd c103 z, fun z => absurd z (by omega)⟩, ⟨fun z => absurd c127 z, fun z => absurd z (by omega)⟩, by rw [if_pos c103, if_pos c127]; exact (lg_cmp_eq _ _).mp c192⟩
                                                have r3 : srch (f3 M cu sm n mn o tw) (41 - (if 2 < mn then tw + 1 else 40)) (if 2 < mn then tw + 1 else 40) = some h := by rw [hg3, show 41 - h = (41 - (h + 1)) + 1 by omega, srch, show f3 M cu sm n mn o tw h = some h from if_pos hyes]
                                                have r2 : srch (f2 M cu sm n mn o) (41 - (if 1 < mn then o + 1 else 40)) (if 1 < mn then o + 1 else 40) = some (tw, h) := by rw [hg2, show 41 - tw = (41 - (tw + 1)) + 1 by omega, srch, show f2 M cu sm n mn o tw = some (tw, h) by unfold f2; rw [r3]; rfl]
                                                have r1 : srch (f1 M cu sm n mn) n 0 = some (o, tw, h) := by rw [hg1, show n - o = (n - (o + 1)) + 1 by omega, srch, show f1 M cu sm n mn o = some (o, tw, h) by unfold f1; rw [r2]; rfl]
                                                have r0 : mcs M cu sm n = some (mn, o, tw, h) := by unfold mcs; rw [hg0, show 4 - mn = (4 - (mn + 1)) + 1 by omega, srch, show f0 M cu sm n mn = some (mn, o, tw, h) by unfold f0; rw [r1]; rfl]
                                                refine lv_aload_n hx hb dX4_choose_195 rfl (lv_at hl 8 rfl) ?_
                                                refine va_get (D := D) (ci := 4) (v := .ref (a 20)) (C := RX4) (T := TX4) (N := 24) hx hb hts (fun w h => List.mem_cons_of_mem _ (List.mem_append_right _ h)) hown hK hP 0 rfl rfl 23 (by decide) (hts (.fieldLink RX4 68 "CashAllocatorModel" "chosen" "[I") (by decide +kernel)) (fun _ h9 => h9) rfl dX4_choose_196 ?_
                                                refine lv_iconst (v := 0) hx hb dX4_choose_199 (by decide) ?_
                                                refine lv_iload hx hb dX4_choose_200 (lv_at hl 6 rfl) ?_
                                                refine zast hx hb hK hP hD hS 20 (n := 3) (f := (M 23)) rfl (0) rfl (by omega) (by decide) (wM a cI cZ (pt M 23 (0) (nI (o)))) rfl dX4_choose_202 (fun H locs hP hD hS => ?_)
                                                refine lv_aload_n hx hb dX4_choose_203 rfl (lv_at hl 8 rfl) ?_
                                                refine va_get (D := D) (ci := 4) (v := .ref (a 20)) (C := RX4) (T := TX4) (N := 24) hx hb hts (fun w h => List.mem_cons_of_mem _ (List.mem_append_right _ h)) hown hK hP 0 rfl rfl 23 (by decide) (hts (.fieldLink RX4 68 "CashAllocatorModel" "chosen" "[I") (by decide +kernel)) (fun _ h9 => h9) rfl dX4_choose_204 ?_
                                                refine lv_iconst (v := 1) hx hb dX4_choose_207 (by decide) ?_
                                                refine lv_iload hx hb dX4_choose_208 (lv_at hl 7 rfl) ?_
                                                refine lv_iconst (v := nI (1)) hx hb dX4_choose_210 (by decide) ?_
                                                refine lv_icmp_le (tgt := 219) hx hb dX4_choose_211 (by decide) (fun c211 => ?_) (fun c211 => ?_)
                                                · -- 211 taken
                                                  rw [nI_leI (by omega) (by omega)] at c211
                                                  refine lv_iconst (v := (-1)) hx hb dX4_choose_219 (by decide) ?_
                                                  refine zast hx hb hK hP hD hS 20 (n := 3) (f := ((pt M 23 (0) (nI (o))) 23)) rfl (1) rfl (by omega) (by decide) (wM a cI cZ (pt (pt M 23 (0) (nI (o))) 23 (1) ((-1)))) rfl dX4_choose_220 (fun H locs hP hD hS => ?_)
                                                  refine lv_aload_n hx hb dX4_choose_221 rfl (lv_at hl 8 rfl) ?_
                                                  refine va_get (D := D) (ci := 4) (v := .ref (a 20)) (C := RX4) (T := TX4) (N := 24) hx hb hts (fun w h => List.mem_cons_of_mem _ (List.mem_append_right _ h)) hown hK hP 0 rfl rfl 23 (by decide) (hts (.fieldLink RX4 68 "CashAllocatorModel" "chosen" "[I") (by decide +kernel)) (fun _ h9 => h9) rfl dX4_choose_222 ?_
                                                  refine lv_iconst (v := 2) hx hb dX4_choose_225 (by decide) ?_
                                                  refine lv_iload hx hb dX4_choose_226 (lv_at hl 7 rfl) ?_
                                                  refine lv_iconst (v := nI (2)) hx hb dX4_choose_228 (by decide) ?_
                                                  refine lv_icmp_le (tgt := 237) hx hb dX4_choose_229 (by decide) (fun c229 => ?_) (fun c229 => ?_)
                                                  · -- 229 taken
                                                    rw [nI_leI (by omega) (by omega)] at c229
                                                    refine lv_iconst (v := (-1)) hx hb dX4_choose_237 (by decide) ?_
                                                    refine zast hx hb hK hP hD hS 20 (n := 3) (f := ((pt (pt M 23 (0) (nI (o))) 23 (1) ((-1))) 23)) rfl (2) rfl (by omega) (by decide) (wM a cI cZ (pt (pt (pt M 23 (0) (nI (o))) 23 (1) ((-1))) 23 (2) ((-1)))) rfl dX4_choose_238 (fun H locs hP hD hS => ?_)
                                                    refine lv_iload hx hb dX4_choose_239 (lv_at hl 7 rfl) ?_
                                                    exact W.iret (v := nI (mn)) hx hb hr (fun t ht hW => ⟨⟨nI (mn), (pt (pt (pt M 23 (0) (nI (o))) 23 (1) ((-1))) 23 (2) ((-1))), rfl, ⟨by rw [r0]; rfl, by rw [r0]; simp only [mcS]; rw [if_neg (show ¬ 1 < mn by omega), if_neg (show ¬ 2 < mn by omega)]⟩, by rw [ht]; exact hP, va_K.moved hW.alike hK, hD⟩, hS.F ht⟩) hS.2.2 dX4_choose_241
                                                  · -- 229 on
                                                    rw [nI_leI (by omega) (by omega)] at c229
                                                    (first | omega | exact absurd c229 c138 | exact absurd c138 c229 | exact absurd (lt_of_nge32 c229) c138 | exact absurd (lt_of_nge32 c138) c229 | exact absurd c138 (not_lt_of_ge32 c229) | exact absurd c229 (not_lt_of_ge32 c138))
                                                · -- 211 on
                                                  rw [nI_leI (by omega) (by omega)] at c211
                                                  (first | omega | exact absurd c211 c114 | exact absurd c114 c211 | exact absurd (lt_of_nge32 c211) c114 | exact absurd (lt_of_nge32 c114) c211 | exact absurd c114 (not_lt_of_ge32 c211) | exact absurd c211 (not_lt_of_ge32 c114))
                                    · -- 138 on
                                      rw [nI_leI (by omega) (by omega)] at c138
                                      refine lv_iconst (v := 1) hx hb dX4_choose_141 (by decide) ?_
                                      refine lv_goto (tgt := 146) hx hb dX4_choose_142 (by decide) ?_
                                      refine lv_icmp_ne (tgt := 153) hx hb dX4_choose_146 (by decide) (fun c146 => ?_) (fun c146 => ?_)
                                      · -- 146 taken
                                        refine lv_iconst (v := 0) hx hb dX4_choose_153 (by decide) ?_
                                        refine lv_istore (lv' := [(11, .int (0)), (10, .int (mdo (M) (cu) n (h))), (9, .int (mdo (M) (cu) n (tw))), (8, .int (mdo (M) (cu) n (o))), (7, .int (nI (h))), (6, .int (nI (tw))), (5, .int (nI (o))), (4, .int (nI (mn))), (0, .ref (a 0)), (1, .int (cu)), (2, .long (sm))]) hx hb dX4_choose_154 hl (by decide) rfl (fun ls hl => ?_)
                                        refine lv_iload hx hb dX4_choose_156 (lv_at hl 0 rfl) ?_
                                        refine lv_if_eq (tgt := 242) hx hb dX4_choose_158 (by decide) (fun c158 => ?_) (fun c158 => ?_)
                                        · -- 158 taken
                                          have hno : ¬ hit M cu sm n mn o tw h := fun z => absurd c127 (z.2.2.1.mpr (by omega))
                                          have hg4 : srch (f3 M cu sm n mn o tw) (41 - (if 2 < mn then tw + 1 else 40)) (if 2 < mn then tw + 1 else 40) = srch (f3 M cu sm n mn o tw) (41 - (h + 1)) (h + 1) := by rw [hg3, show 41 - h = (41 - (h + 1)) + 1 by omega, srch, show f3 M cu sm n mn o tw h = none from if_neg hno]
                                          refine lv_iinc (v := nI (h + 1)) (lv' := [(7, .int (nI (h + 1))), (11, .int (0)), (10, .int (mdo (M) (cu) n (h))), (9, .int (mdo (M) (cu) n (tw))), (8, .int (mdo (M) (cu) n (o))), (6, .int (nI (tw))), (5, .int (nI (o))), (4, .int (nI (mn))), (0, .ref (a 0)), (1, .int (cu)), (2, .long (sm))]) hx hb dX4_choose_242 hl (k := 4) rfl (nI_1 _) (by decide) rfl (fun ls hl => ?_)
                                          refine lv_goto (tgt := 62) hx hb dX4_choose_245 (by decide) ?_
                                          exact ih62 (h + 1) (by omega) hg4 (by omega) _ _ hP hD hS _ (lv_sub hl [0, 5, 6, 7, 8, 9, 10] rfl)
                                        · -- 158 on
                                          exact absurd c158 (by decide)
                                      · -- 146 on
                                        exact absurd c146 (by decide)
                                  · -- 127 on
                                    refine lv_iconst (v := 1) hx hb dX4_choose_130 (by decide) ?_
                                    refine lv_goto (tgt := 135) hx hb dX4_choose_131 (by decide) ?_
                                    refine lv_iload hx hb dX4_choose_135 (lv_at hl 6 rfl) ?_
                                    refine lv_iconst (v := nI (2)) hx hb dX4_choose_137 (by decide) ?_
                                    refine lv_icmp_le (tgt := 145) hx hb dX4_choose_138 (by decide) (fun c138 => ?_) (fun c138 => ?_)
                                    · -- 138 taken
                                      rw [nI_leI (by omega) (by omega)] at c138
                                      refine lv_iconst (v := 0) hx hb dX4_choose_145 (by decide) ?_
                                      refine lv_icmp_ne (tgt := 153) hx hb dX4_choose_146 (by decide) (fun c146 => ?_) (fun c146 => ?_)
                                      · -- 146 taken
                                        refine lv_iconst (v := 0) hx hb dX4_choose_153 (by decide) ?_
                                        refine lv_istore (lv' := [(11, .int (0)), (10, .int (mdo (M) (cu) n (h))), (9, .int (mdo (M) (cu) n (tw))), (8, .int (mdo (M) (cu) n (o))), (7, .int (nI (h))), (6, .int (nI (tw))), (5, .int (nI (o))), (4, .int (nI (mn))), (0, .ref (a 0)), (1, .int (cu)), (2, .long (sm))]) hx hb dX4_choose_154 hl (by decide) rfl (fun ls hl => ?_)
                                        refine lv_iload hx hb dX4_choose_156 (lv_at hl 0 rfl) ?_
                                        refine lv_if_eq (tgt := 242) hx hb dX4_choose_158 (by decide) (fun c158 => ?_) (fun c158 => ?_)
                                        · -- 158 taken
                                          have hno : ¬ hit M cu sm n mn o tw h := fun z => absurd (z.2.2.1.mp c127) (by omega)
                                          have hg4 : srch (f3 M cu sm n mn o tw) (41 - (if 2 < mn then tw + 1 else 40)) (if 2 < mn then tw + 1 else 40) = srch (f3 M cu sm n mn o tw) (41 - (h + 1)) (h + 1) := by rw [hg3, show 41 - h = (41 - (h + 1)) + 1 by omega, srch, show f3 M cu sm n mn o tw h = none from if_neg hno]
                                          refine lv_iinc (v := nI (h + 1)) (lv' := [(7, .int (nI (h + 1))), (11, .int (0)), (10, .int (mdo (M) (cu) n (h))), (9, .int (mdo (M) (cu) n (tw))), (8, .int (mdo (M) (cu) n (o))), (6, .int (nI (tw))), (5, .int (nI (o))), (4, .int (nI (mn))), (0, .ref (a 0)), (1, .int (cu)), (2, .long (sm))]) hx hb dX4_choose_242 hl (k := 4) rfl (nI_1 _) (by decide) rfl (fun ls hl => ?_)
                                          refine lv_goto (tgt := 62) hx hb dX4_choose_245 (by decide) ?_
                                          exact ih62 (h + 1) (by omega) hg4 (by omega) _ _ hP hD hS _ (lv_sub hl [0, 5, 6, 7, 8, 9, 10] rfl)
                                        · -- 158 on
                                          exact absurd c158 (by decide)
                                      · -- 146 on
                                        exact absurd c146 (by decide)
                                    · -- 138 on
                                      rw [nI_leI (by omega) (by omega)] at c138
                                      refine lv_iconst (v := 1) hx hb dX4_choose_141 (by decide) ?_
                                      refine lv_goto (tgt := 146) hx hb dX4_choose_142 (by decide) ?_
                                      refine lv_icmp_ne (tgt := 153) hx hb dX4_choose_146 (by decide) (fun c146 => ?_) (fun c146 => ?_)
                                      · -- 146 taken
                                        exact absurd c146 (by decide)
                                      · -- 146 on
                                        refine lv_iconst (v := 1) hx hb dX4_choose_149 (by decide) ?_
                                        refine lv_goto (tgt := 154) hx hb dX4_choose_150 (by decide) ?_
                                        refine lv_istore (lv' := [(11, .int (1)), (10, .int (mdo (M) (cu) n (h))), (9, .int (mdo (M) (cu) n (tw))), (8, .int (mdo (M) (cu) n (o))), (7, .int (nI (h))), (6, .int (nI (tw))), (5, .int (nI (o))), (4, .int (nI (mn))), (0, .ref (a 0)), (1, .int (cu)), (2, .long (sm))]) hx hb dX4_choose_154 hl (by decide) rfl (fun ls hl => ?_)
                                        refine lv_iload hx hb dX4_choose_156 (lv_at hl 0 rfl) ?_
                                        refine lv_if_eq (tgt := 242) hx hb dX4_choose_158 (by decide) (fun c158 => ?_) (fun c158 => ?_)
                                        · -- 158 taken
                                          exact absurd c158 (by decide)
                                        · -- 158 on
                                          refine lv_iload hx hb dX4_choose_161 (lv_at hl 3 rfl) ?_
                                          refine lv_i2l (v := (mdo (M) (cu) n (o)).toInt64) hx hb dX4_choose_163 rfl ?_
                                          refine lv_iload hx hb dX4_choose_164 (lv_at hl 2 rfl) ?_
                                          refine lv_if_ge (tgt := 173) hx hb dX4_choose_166 (by decide) (fun c166 => ?_) (fun c166 => ?_)
                                          · -- 166 taken
                                            (first | omega | exact absurd c166 c103 | exact absurd c103 c166 | exact absurd (lt_of_nge32 c166) c103 | exact absurd (lt_of_nge32 c103) c166 | exact absurd c103 (not_lt_of_ge32 c166) | exact absurd c166 (not_lt_of_ge32 c103))
                                          · -- 166 on
                                            refine lv_iconst (v := 0) hx hb dX4_choose_169 (by decide) ?_
                                            refine lv_goto (tgt := 175) hx hb dX4_choose_170 (by decide) ?_
                                            refine lv_i2l (v := (0).toInt64) hx hb dX4_choose_175 rfl ?_
                                            refine lv_ladd hx hb dX4_choose_176 ?_
                                            refine lv_iload hx hb dX4_choose_177 (lv_at hl 1 rfl) ?_
                                            refine lv_if_ge (tgt := 186) hx hb dX4_choose_179 (by decide) (fun c179 => ?_) (fun c179 => ?_)
                                            · -- 179 taken
                                              refine lv_iload hx hb dX4_choose_186 (lv_at hl 1 rfl) ?_
                                              refine lv_i2l (v := (mdo (M) (cu) n (h)).toInt64) hx hb dX4_choose_188 rfl ?_
                                              refine lv_ladd hx hb dX4_choose_189 ?_
                                              refine lv_lload_n hx hb dX4_choose_190 rfl (lv_at hl 10 rfl) ?_
                                              refine W.lcmp hx hb dX4_choose_191 ?_
                                              refine lv_if_ne (tgt := 242) hx hb dX4_choose_192 (by decide) (fun c192 => ?_) (fun c192 => ?_)
                                              · -- 192 taken
                                                have hno : ¬ hit M cu sm n mn o tw h := fun z => c192 ((lg_cmp_eq _ _).mpr (by have z4 := z.2.2.2; rw [if_pos c103, if_neg c127] at z4; exact z4))
                                                have hg4 : srch (f3 M cu sm n mn o tw) (41 - (if 2 < mn then tw + 1 else 40)) (if 2 < mn then tw + 1 else 40) = srch (f3 M cu sm n mn o tw) (41 - (h + 1)) (h + 1) := by rw [hg3, show 41 - h = (41 - (h + 1)) + 1 by omega, srch, show f3 M cu sm n mn o tw h = none from if_neg hno]
                                                refine lv_iinc (v := nI (h + 1)) (lv' := [(7, .int (nI (h + 1))), (11, .int (1)), (10, .int (mdo (M) (cu) n (h))), (9, .int (mdo (M) (cu) n (tw))), (8, .int (mdo (M) (cu) n (o))), (6, .int (nI (tw))), (5, .int (nI (o))), (4, .int (nI (mn))), (0, .ref (a 0)), (1, .int (cu)), (2, .long (sm))]) hx hb dX4_choose_242 hl (k := 4) rfl (nI_1 _) (by decide) rfl (fun ls hl => ?_)
                                                refine lv_goto (tgt := 62) hx hb dX4_choose_245 (by decide) ?_
                                                exact ih62 (h + 1) (by omega) hg4 (by omega) _ _ hP hD hS _ (lv_sub hl [0, 5, 6, 7, 8, 9, 10] rfl)
                                              · -- 192 on
                                                have hyes : hit M cu sm n mn o tw h := ⟨c98, ⟨fun z => absurd c103 z, fun z => absurd z (by omega)⟩, ⟨fun _ => by omega, fun _ => c127⟩, by rw [if_pos c103, if_neg c127]; exact (lg_cmp_eq _ _).mp c192⟩
                                                have r3 : srch (f3 M cu sm n mn o tw) (41 - (if 2 < mn then tw + 1 else 40)) (if 2 < mn then tw + 1 else 40) = some h := by rw [hg3, show 41 - h = (41 - (h + 1)) + 1 by omega, srch, show f3 M cu sm n mn o tw h = some h from if_pos hyes]
                                                have r2 : srch (f2 M cu sm n mn o) (41 - (if 1 < mn then o + 1 else 40)) (if 1 < mn then o + 1 else 40) = some (tw, h) := by rw [hg2, show 41 - tw = (41 - (tw + 1)) + 1 by omega, srch, show f2 M cu sm n mn o tw = some (tw, h) by unfold f2; rw [r3]; rfl]
                                                have r1 : srch (f1 M cu sm n mn) n 0 = some (o, tw, h) := by rw [hg1, show n - o = (n - (o + 1)) + 1 by omega, srch, show f1 M cu sm n mn o = some (o, tw, h) by unfold f1; rw [r2]; rfl]
                                                have r0 : mcs M cu sm n = some (mn, o, tw, h) := by unfold mcs; rw [hg0, show 4 - mn = (4 - (mn + 1)) + 1 by omega, srch, show f0 M cu sm n mn = some (mn, o, tw, h) by unfold f0; rw [r1]; rfl]
                                                refine lv_aload_n hx hb dX4_choose_195 rfl (lv_at hl 8 rfl) ?_
                                                refine va_get (D := D) (ci := 4) (v := .ref (a 20)) (C := RX4) (T := TX4) (N := 24) hx hb hts (fun w h => List.mem_cons_of_mem _ (List.mem_append_right _ h)) hown hK hP 0 rfl rfl 23 (by decide) (hts (.fieldLink RX4 68 "CashAllocatorModel" "chosen" "[I") (by decide +kernel)) (fun _ h9 => h9) rfl dX4_choose_196 ?_
                                                refine lv_iconst (v := 0) hx hb dX4_choose_199 (by decide) ?_
                                                refine lv_iload hx hb dX4_choose_200 (lv_at hl 6 rfl) ?_
                                                refine zast hx hb hK hP hD hS 20 (n := 3) (f := (M 23)) rfl (0) rfl (by omega) (by decide) (wM a cI cZ (pt M 23 (0) (nI (o)))) rfl dX4_choose_202 (fun H locs hP hD hS => ?_)
                                                refine lv_aload_n hx hb dX4_choose_203 rfl (lv_at hl 8 rfl) ?_
                                                refine va_get (D := D) (ci := 4) (v := .ref (a 20)) (C := RX4) (T := TX4) (N := 24) hx hb hts (fun w h => List.mem_cons_of_mem _ (List.mem_append_right _ h)) hown hK hP 0 rfl rfl 23 (by decide) (hts (.fieldLink RX4 68 "CashAllocatorModel" "chosen" "[I") (by decide +kernel)) (fun _ h9 => h9) rfl dX4_choose_204 ?_
                                                refine lv_iconst (v := 1) hx hb dX4_choose_207 (by decide) ?_
                                                refine lv_iload hx hb dX4_choose_208 (lv_at hl 7 rfl) ?_
                                                refine lv_iconst (v := nI (1)) hx hb dX4_choose_210 (by decide) ?_
                                                refine lv_icmp_le (tgt := 219) hx hb dX4_choose_211 (by decide) (fun c211 => ?_) (fun c211 => ?_)
                                                · -- 211 taken
                                                  rw [nI_leI (by omega) (by omega)] at c211
                                                  refine lv_iconst (v := (-1)) hx hb dX4_choose_219 (by decide) ?_
                                                  refine zast hx hb hK hP hD hS 20 (n := 3) (f := ((pt M 23 (0) (nI (o))) 23)) rfl (1) rfl (by omega) (by decide) (wM a cI cZ (pt (pt M 23 (0) (nI (o))) 23 (1) ((-1)))) rfl dX4_choose_220 (fun H locs hP hD hS => ?_)
                                                  refine lv_aload_n hx hb dX4_choose_221 rfl (lv_at hl 8 rfl) ?_
                                                  refine va_get (D := D) (ci := 4) (v := .ref (a 20)) (C := RX4) (T := TX4) (N := 24) hx hb hts (fun w h => List.mem_cons_of_mem _ (List.mem_append_right _ h)) hown hK hP 0 rfl rfl 23 (by decide) (hts (.fieldLink RX4 68 "CashAllocatorModel" "chosen" "[I") (by decide +kernel)) (fun _ h9 => h9) rfl dX4_choose_222 ?_
                                                  refine lv_iconst (v := 2) hx hb dX4_choose_225 (by decide) ?_
                                                  refine lv_iload hx hb dX4_choose_226 (lv_at hl 7 rfl) ?_
                                                  refine lv_iconst (v := nI (2)) hx hb dX4_choose_228 (by decide) ?_
                                                  refine lv_icmp_le (tgt := 237) hx hb dX4_choose_229 (by decide) (fun c229 => ?_) (fun c229 => ?_)
                                                  · -- 229 taken
                                                    rw [nI_leI (by omega) (by omega)] at c229
                                                    (first | omega | exact absurd c229 c138 | exact absurd c138 c229 | exact absurd (lt_of_nge32 c229) c138 | exact absurd (lt_of_nge32 c138) c229 | exact absurd c138 (not_lt_of_ge32 c229) | exact absurd c229 (not_lt_of_ge32 c138))
                                                  · -- 229 on
                                                    rw [nI_leI (by omega) (by omega)] at c229
                                                    refine lv_iload hx hb dX4_choose_232 (lv_at hl 4 rfl) ?_
                                                    refine lv_goto (tgt := 238) hx hb dX4_choose_234 (by decide) ?_
                                                    refine zast hx hb hK hP hD hS 20 (n := 3) (f := ((pt (pt M 23 (0) (nI (o))) 23 (1) ((-1))) 23)) rfl (2) rfl (by omega) (by decide) (wM a cI cZ (pt (pt (pt M 23 (0) (nI (o))) 23 (1) ((-1))) 23 (2) (nI (h)))) rfl dX4_choose_238 (fun H locs hP hD hS => ?_)
                                                    refine lv_iload hx hb dX4_choose_239 (lv_at hl 7 rfl) ?_
                                                    exact W.iret (v := nI (mn)) hx hb hr (fun t ht hW => ⟨⟨nI (mn), (pt (pt (pt M 23 (0) (nI (o))) 23 (1) ((-1))) 23 (2) (nI (h))), rfl, ⟨by rw [r0]; rfl, by rw [r0]; simp only [mcS]; rw [if_neg (show ¬ 1 < mn by omega), if_pos (show 2 < mn by omega)]⟩, by rw [ht]; exact hP, va_K.moved hW.alike hK, hD⟩, hS.F ht⟩) hS.2.2 dX4_choose_241
                                                · -- 211 on
                                                  rw [nI_leI (by omega) (by omega)] at c211
                                                  (first | omega | exact absurd c211 c114 | exact absurd c114 c211 | exact absurd (lt_of_nge32 c211) c114 | exact absurd (lt_of_nge32 c114) c211 | exact absurd c114 (not_lt_of_ge32 c211) | exact absurd c211 (not_lt_of_ge32 c114))
                                            · -- 179 on
                                              (first | omega | exact absurd c179 c127 | exact absurd c127 c179 | exact absurd (lt_of_nge32 c179) c127 | exact absurd (lt_of_nge32 c127) c179 | exact absurd c127 (not_lt_of_ge32 c179) | exact absurd c179 (not_lt_of_ge32 c127))
                              · -- 114 on
                                rw [nI_leI (by omega) (by omega)] at c114
                                refine lv_iconst (v := 1) hx hb dX4_choose_117 (by decide) ?_
                                refine lv_goto (tgt := 122) hx hb dX4_choose_118 (by decide) ?_
                                refine lv_icmp_ne (tgt := 153) hx hb dX4_choose_122 (by decide) (fun c122 => ?_) (fun c122 => ?_)
                                · -- 122 taken
                                  refine lv_iconst (v := 0) hx hb dX4_choose_153 (by decide) ?_
                                  refine lv_istore (lv' := [(11, .int (0)), (10, .int (mdo (M) (cu) n (h))), (9, .int (mdo (M) (cu) n (tw))), (8, .int (mdo (M) (cu) n (o))), (7, .int (nI (h))), (6, .int (nI (tw))), (5, .int (nI (o))), (4, .int (nI (mn))), (0, .ref (a 0)), (1, .int (cu)), (2, .long (sm))]) hx hb dX4_choose_154 hl (by decide) rfl (fun ls hl => ?_)
                                  refine lv_iload hx hb dX4_choose_156 (lv_at hl 0 rfl) ?_
                                  refine lv_if_eq (tgt := 242) hx hb dX4_choose_158 (by decide) (fun c158 => ?_) (fun c158 => ?_)
                                  · -- 158 taken
                                    have hno : ¬ hit M cu sm n mn o tw h := fun z => absurd c103 (z.2.1.mpr (by omega))
                                    have hg4 : srch (f3 M cu sm n mn o tw) (41 - (if 2 < mn then tw + 1 else 40)) (if 2 < mn then tw + 1 else 40) = srch (f3 M cu sm n mn o tw) (41 - (h + 1)) (h + 1) := by rw [hg3, show 41 - h = (41 - (h + 1)) + 1 by omega, srch, show f3 M cu sm n mn o tw h = none from if_neg hno]
                                    refine lv_iinc (v := nI (h + 1)) (lv' := [(7, .int (nI (h + 1))), (11, .int (0)), (10, .int (mdo (M) (cu) n (h))), (9, .int (mdo (M) (cu) n (tw))), (8, .int (mdo (M) (cu) n (o))), (6, .int (nI (tw))), (5, .int (nI (o))), (4, .int (nI (mn))), (0, .ref (a 0)), (1, .int (cu)), (2, .long (sm))]) hx hb dX4_choose_242 hl (k := 4) rfl (nI_1 _) (by decide) rfl (fun ls hl => ?_)
                                    refine lv_goto (tgt := 62) hx hb dX4_choose_245 (by decide) ?_
                                    exact ih62 (h + 1) (by omega) hg4 (by omega) _ _ hP hD hS _ (lv_sub hl [0, 5, 6, 7, 8, 9, 10] rfl)
                                  · -- 158 on
                                    exact absurd c158 (by decide)
                                · -- 122 on
                                  exact absurd c122 (by decide)
                            · -- 103 on
                              refine lv_iconst (v := 1) hx hb dX4_choose_106 (by decide) ?_
                              refine lv_goto (tgt := 111) hx hb dX4_choose_107 (by decide) ?_
                              refine lv_iload hx hb dX4_choose_111 (lv_at hl 6 rfl) ?_
                              refine lv_iconst (v := nI (1)) hx hb dX4_choose_113 (by decide) ?_
                              refine lv_icmp_le (tgt := 121) hx hb dX4_choose_114 (by decide) (fun c114 => ?_) (fun c114 => ?_)
                              · -- 114 taken
                                rw [nI_leI (by omega) (by omega)] at c114
                                refine lv_iconst (v := 0) hx hb dX4_choose_121 (by decide) ?_
                                refine lv_icmp_ne (tgt := 153) hx hb dX4_choose_122 (by decide) (fun c122 => ?_) (fun c122 => ?_)
                                · -- 122 taken
                                  refine lv_iconst (v := 0) hx hb dX4_choose_153 (by decide) ?_
                                  refine lv_istore (lv' := [(11, .int (0)), (10, .int (mdo (M) (cu) n (h))), (9, .int (mdo (M) (cu) n (tw))), (8, .int (mdo (M) (cu) n (o))), (7, .int (nI (h))), (6, .int (nI (tw))), (5, .int (nI (o))), (4, .int (nI (mn))), (0, .ref (a 0)), (1, .int (cu)), (2, .long (sm))]) hx hb dX4_choose_154 hl (by decide) rfl (fun ls hl => ?_)
                                  refine lv_iload hx hb dX4_choose_156 (lv_at hl 0 rfl) ?_
                                  refine lv_if_eq (tgt := 242) hx hb dX4_choose_158 (by decide) (fun c158 => ?_) (fun c158 => ?_)
                                  · -- 158 taken
                                    have hno : ¬ hit M cu sm n mn o tw h := fun z => absurd (z.2.1.mp c103) (by omega)
                                    have hg4 : srch (f3 M cu sm n mn o tw) (41 - (if 2 < mn then tw + 1 else 40)) (if 2 < mn then tw + 1 else 40) = srch (f3 M cu sm n mn o tw) (41 - (h + 1)) (h + 1) := by rw [hg3, show 41 - h = (41 - (h + 1)) + 1 by omega, srch, show f3 M cu sm n mn o tw h = none from if_neg hno]
                                    refine lv_iinc (v := nI (h + 1)) (lv' := [(7, .int (nI (h + 1))), (11, .int (0)), (10, .int (mdo (M) (cu) n (h))), (9, .int (mdo (M) (cu) n (tw))), (8, .int (mdo (M) (cu) n (o))), (6, .int (nI (tw))), (5, .int (nI (o))), (4, .int (nI (mn))), (0, .ref (a 0)), (1, .int (cu)), (2, .long (sm))]) hx hb dX4_choose_242 hl (k := 4) rfl (nI_1 _) (by decide) rfl (fun ls hl => ?_)
                                    refine lv_goto (tgt := 62) hx hb dX4_choose_245 (by decide) ?_
                                    exact ih62 (h + 1) (by omega) hg4 (by omega) _ _ hP hD hS _ (lv_sub hl [0, 5, 6, 7, 8, 9, 10] rfl)
                                  · -- 158 on
                                    exact absurd c158 (by decide)
                                · -- 122 on
                                  exact absurd c122 (by decide)
                              · -- 114 on
                                rw [nI_leI (by omega) (by omega)] at c114
                                refine lv_iconst (v := 1) hx hb dX4_choose_117 (by decide) ?_
                                refine lv_goto (tgt := 122) hx hb dX4_choose_118 (by decide) ?_
                                refine lv_icmp_ne (tgt := 153) hx hb dX4_choose_122 (by decide) (fun c122 => ?_) (fun c122 => ?_)
                                · -- 122 taken
                                  exact absurd c122 (by decide)
                                · -- 122 on
                                  refine lv_iload hx hb dX4_choose_125 (lv_at hl 0 rfl) ?_
                                  refine lv_if_lt (tgt := 134) hx hb dX4_choose_127 (by decide) (fun c127 => ?_) (fun c127 => ?_)
                                  · -- 127 taken
                                    refine lv_iconst (v := 0) hx hb dX4_choose_134 (by decide) ?_
                                    refine lv_iload hx hb dX4_choose_135 (lv_at hl 6 rfl) ?_
                                    refine lv_iconst (v := nI (2)) hx hb dX4_choose_137 (by decide) ?_
                                    refine lv_icmp_le (tgt := 145) hx hb dX4_choose_138 (by decide) (fun c138 => ?_) (fun c138 => ?_)
                                    · -- 138 taken
                                      rw [nI_leI (by omega) (by omega)] at c138
                                      refine lv_iconst (v := 0) hx hb dX4_choose_145 (by decide) ?_
                                      refine lv_icmp_ne (tgt := 153) hx hb dX4_choose_146 (by decide) (fun c146 => ?_) (fun c146 => ?_)
                                      · -- 146 taken
                                        exact absurd c146 (by decide)
                                      · -- 146 on
                                        refine lv_iconst (v := 1) hx hb dX4_choose_149 (by decide) ?_
                                        refine lv_goto (tgt := 154) hx hb dX4_choose_150 (by decide) ?_
                                        refine lv_istore (lv' := [(11, .int (1)), (10, .int (mdo (M) (cu) n (h))), (9, .int (mdo (M) (cu) n (tw))), (8, .int (mdo (M) (cu) n (o))), (7, .int (nI (h))), (6, .int (nI (tw))), (5, .int (nI (o))), (4, .int (nI (mn))), (0, .ref (a 0)), (1, .int (cu)), (2, .long (sm))]) hx hb dX4_choose_154 hl (by decide) rfl (fun ls hl => ?_)
                                        refine lv_iload hx hb dX4_choose_156 (lv_at hl 0 rfl) ?_
                                        refine lv_if_eq (tgt := 242) hx hb dX4_choose_158 (by decide) (fun c158 => ?_) (fun c158 => ?_)
                                        · -- 158 taken
                                          exact absurd c158 (by decide)
                                        · -- 158 on
                                          refine lv_iload hx hb dX4_choose_161 (lv_at hl 3 rfl) ?_
                                          refine lv_i2l (v := (mdo (M) (cu) n (o)).toInt64) hx hb dX4_choose_163 rfl ?_
                                          refine lv_iload hx hb dX4_choose_164 (lv_at hl 2 rfl) ?_
                                          refine lv_if_ge (tgt := 173) hx hb dX4_choose_166 (by decide) (fun c166 => ?_) (fun c166 => ?_)
                                          · -- 166 taken
                                            refine lv_iload hx hb dX4_choose_173 (lv_at hl 2 rfl) ?_
                                            refine lv_i2l (v := (mdo (M) (cu) n (tw)).toInt64) hx hb dX4_choose_175 rfl ?_
                                            refine lv_ladd hx hb dX4_choose_176 ?_
                                            refine lv_iload hx hb dX4_choose_177 (lv_at hl 1 rfl) ?_
                                            refine lv_if_ge (tgt := 186) hx hb dX4_choose_179 (by decide) (fun c179 => ?_) (fun c179 => ?_)
                                            · -- 179 taken
                                              (first | omega | exact absurd c179 c127 | exact absurd c127 c179 | exact absurd (lt_of_nge32 c179) c127 | exact absurd (lt_of_nge32 c127) c179 | exact absurd c127 (not_lt_of_ge32 c179) | exact absurd c179 (not_lt_of_ge32 c127))
                                            · -- 179 on
                                              refine lv_iconst (v := 0) hx hb dX4_choose_182 (by decide) ?_
                                              refine lv_goto (tgt := 188) hx hb dX4_choose_183 (by decide) ?_
                                              refine lv_i2l (v := (0).toInt64) hx hb dX4_choose_188 rfl ?_
                                              refine lv_ladd hx hb dX4_choose_189 ?_
                                              refine lv_lload_n hx hb dX4_choose_190 rfl (lv_at hl 10 rfl) ?_
                                              refine W.lcmp hx hb dX4_choose_191 ?_
                                              refine lv_if_ne (tgt := 242) hx hb dX4_choose_192 (by decide) (fun c192 => ?_) (fun c192 => ?_)
                                              · -- 192 taken
                                                have hno : ¬ hit M cu sm n mn o tw h := fun z => c192 ((lg_cmp_eq _ _).mpr (by have z4 := z.2.2.2; rw [if_neg c103, if_pos c127] at z4; exact z4))
                                                have hg4 : srch (f3 M cu sm n mn o tw) (41 - (if 2 < mn then tw + 1 else 40)) (if 2 < mn then tw + 1 else 40) = srch (f3 M cu sm n mn o tw) (41 - (h + 1)) (h + 1) := by rw [hg3, show 41 - h = (41 - (h + 1)) + 1 by omega, srch, show f3 M cu sm n mn o tw h = none from if_neg hno]
                                                refine lv_iinc (v := nI (h + 1)) (lv' := [(7, .int (nI (h + 1))), (11, .int (1)), (10, .int (mdo (M) (cu) n (h))), (9, .int (mdo (M) (cu) n (tw))), (8, .int (mdo (M) (cu) n (o))), (6, .int (nI (tw))), (5, .int (nI (o))), (4, .int (nI (mn))), (0, .ref (a 0)), (1, .int (cu)), (2, .long (sm))]) hx hb dX4_choose_242 hl (k := 4) rfl (nI_1 _) (by decide) rfl (fun ls hl => ?_)
                                                refine lv_goto (tgt := 62) hx hb dX4_choose_245 (by decide) ?_
                                                exact ih62 (h + 1) (by omega) hg4 (by omega) _ _ hP hD hS _ (lv_sub hl [0, 5, 6, 7, 8, 9, 10] rfl)
                                              · -- 192 on
                                                have hyes : hit M cu sm n mn o tw h := ⟨c98, ⟨fun _ => by omega, fun _ => c103⟩, ⟨fun z => absurd c127 z, fun z => absurd z (by omega)⟩, by rw [if_neg c103, if_pos c127]; exact (lg_cmp_eq _ _).mp c192⟩
                                                have r3 : srch (f3 M cu sm n mn o tw) (41 - (if 2 < mn then tw + 1 else 40)) (if 2 < mn then tw + 1 else 40) = some h := by rw [hg3, show 41 - h = (41 - (h + 1)) + 1 by omega, srch, show f3 M cu sm n mn o tw h = some h from if_pos hyes]
                                                have r2 : srch (f2 M cu sm n mn o) (41 - (if 1 < mn then o + 1 else 40)) (if 1 < mn then o + 1 else 40) = some (tw, h) := by rw [hg2, show 41 - tw = (41 - (tw + 1)) + 1 by omega, srch, show f2 M cu sm n mn o tw = some (tw, h) by unfold f2; rw [r3]; rfl]
                                                have r1 : srch (f1 M cu sm n mn) n 0 = some (o, tw, h) := by rw [hg1, show n - o = (n - (o + 1)) + 1 by omega, srch, show f1 M cu sm n mn o = some (o, tw, h) by unfold f1; rw [r2]; rfl]
                                                have r0 : mcs M cu sm n = some (mn, o, tw, h) := by unfold mcs; rw [hg0, show 4 - mn = (4 - (mn + 1)) + 1 by omega, srch, show f0 M cu sm n mn = some (mn, o, tw, h) by unfold f0; rw [r1]; rfl]
                                                refine lv_aload_n hx hb dX4_choose_195 rfl (lv_at hl 8 rfl) ?_
                                                refine va_get (D := D) (ci := 4) (v := .ref (a 20)) (C := RX4) (T := TX4) (N := 24) hx hb hts (fun w h => List.mem_cons_of_mem _ (List.mem_append_right _ h)) hown hK hP 0 rfl rfl 23 (by decide) (hts (.fieldLink RX4 68 "CashAllocatorModel" "chosen" "[I") (by decide +kernel)) (fun _ h9 => h9) rfl dX4_choose_196 ?_
                                                refine lv_iconst (v := 0) hx hb dX4_choose_199 (by decide) ?_
                                                refine lv_iload hx hb dX4_choose_200 (lv_at hl 6 rfl) ?_
                                                refine zast hx hb hK hP hD hS 20 (n := 3) (f := (M 23)) rfl (0) rfl (by omega) (by decide) (wM a cI cZ (pt M 23 (0) (nI (o)))) rfl dX4_choose_202 (fun H locs hP hD hS => ?_)
                                                refine lv_aload_n hx hb dX4_choose_203 rfl (lv_at hl 8 rfl) ?_
                                                refine va_get (D := D) (ci := 4) (v := .ref (a 20)) (C := RX4) (T := TX4) (N := 24) hx hb hts (fun w h => List.mem_cons_of_mem _ (List.mem_append_right _ h)) hown hK hP 0 rfl rfl 23 (by decide) (hts (.fieldLink RX4 68 "CashAllocatorModel" "chosen" "[I") (by decide +kernel)) (fun _ h9 => h9) rfl dX4_choose_204 ?_
                                                refine lv_iconst (v := 1) hx hb dX4_choose_207 (by decide) ?_
                                                refine lv_iload hx hb dX4_choose_208 (lv_at hl 7 rfl) ?_
                                                refine lv_iconst (v := nI (1)) hx hb dX4_choose_210 (by decide) ?_
                                                refine lv_icmp_le (tgt := 219) hx hb dX4_choose_211 (by decide) (fun c211 => ?_) (fun c211 => ?_)
                                                · -- 211 taken
                                                  rw [nI_leI (by omega) (by omega)] at c211
                                                  (first | omega | exact absurd c211 c114 | exact absurd c114 c211 | exact absurd (lt_of_nge32 c211) c114 | exact absurd (lt_of_nge32 c114) c211 | exact absurd c114 (not_lt_of_ge32 c211) | exact absurd c211 (not_lt_of_ge32 c114))
                                                · -- 211 on
                                                  rw [nI_leI (by omega) (by omega)] at c211
                                                  refine lv_iload hx hb dX4_choose_214 (lv_at hl 5 rfl) ?_
                                                  refine lv_goto (tgt := 220) hx hb dX4_choose_216 (by decide) ?_
                                                  refine zast hx hb hK hP hD hS 20 (n := 3) (f := ((pt M 23 (0) (nI (o))) 23)) rfl (1) rfl (by omega) (by decide) (wM a cI cZ (pt (pt M 23 (0) (nI (o))) 23 (1) (nI (tw)))) rfl dX4_choose_220 (fun H locs hP hD hS => ?_)
                                                  refine lv_aload_n hx hb dX4_choose_221 rfl (lv_at hl 8 rfl) ?_
                                                  refine va_get (D := D) (ci := 4) (v := .ref (a 20)) (C := RX4) (T := TX4) (N := 24) hx hb hts (fun w h => List.mem_cons_of_mem _ (List.mem_append_right _ h)) hown hK hP 0 rfl rfl 23 (by decide) (hts (.fieldLink RX4 68 "CashAllocatorModel" "chosen" "[I") (by decide +kernel)) (fun _ h9 => h9) rfl dX4_choose_222 ?_
                                                  refine lv_iconst (v := 2) hx hb dX4_choose_225 (by decide) ?_
                                                  refine lv_iload hx hb dX4_choose_226 (lv_at hl 7 rfl) ?_
                                                  refine lv_iconst (v := nI (2)) hx hb dX4_choose_228 (by decide) ?_
                                                  refine lv_icmp_le (tgt := 237) hx hb dX4_choose_229 (by decide) (fun c229 => ?_) (fun c229 => ?_)
                                                  · -- 229 taken
                                                    rw [nI_leI (by omega) (by omega)] at c229
                                                    refine lv_iconst (v := (-1)) hx hb dX4_choose_237 (by decide) ?_
                                                    refine zast hx hb hK hP hD hS 20 (n := 3) (f := ((pt (pt M 23 (0) (nI (o))) 23 (1) (nI (tw))) 23)) rfl (2) rfl (by omega) (by decide) (wM a cI cZ (pt (pt (pt M 23 (0) (nI (o))) 23 (1) (nI (tw))) 23 (2) ((-1)))) rfl dX4_choose_238 (fun H locs hP hD hS => ?_)
                                                    refine lv_iload hx hb dX4_choose_239 (lv_at hl 7 rfl) ?_
                                                    exact W.iret (v := nI (mn)) hx hb hr (fun t ht hW => ⟨⟨nI (mn), (pt (pt (pt M 23 (0) (nI (o))) 23 (1) (nI (tw))) 23 (2) ((-1))), rfl, ⟨by rw [r0]; rfl, by rw [r0]; simp only [mcS]; rw [if_pos (show 1 < mn by omega), if_neg (show ¬ 2 < mn by omega)]⟩, by rw [ht]; exact hP, va_K.moved hW.alike hK, hD⟩, hS.F ht⟩) hS.2.2 dX4_choose_241
                                                  · -- 229 on
                                                    rw [nI_leI (by omega) (by omega)] at c229
                                                    (first | omega | exact absurd c229 c138 | exact absurd c138 c229 | exact absurd (lt_of_nge32 c229) c138 | exact absurd (lt_of_nge32 c138) c229 | exact absurd c138 (not_lt_of_ge32 c229) | exact absurd c229 (not_lt_of_ge32 c138))
                                          · -- 166 on
                                            (first | omega | exact absurd c166 c103 | exact absurd c103 c166 | exact absurd (lt_of_nge32 c166) c103 | exact absurd (lt_of_nge32 c103) c166 | exact absurd c103 (not_lt_of_ge32 c166) | exact absurd c166 (not_lt_of_ge32 c103))
                                    · -- 138 on
                                      rw [nI_leI (by omega) (by omega)] at c138
                                      refine lv_iconst (v := 1) hx hb dX4_choose_141 (by decide) ?_
                                      refine lv_goto (tgt := 146) hx hb dX4_choose_142 (by decide) ?_
                                      refine lv_icmp_ne (tgt := 153) hx hb dX4_choose_146 (by decide) (fun c146 => ?_) (fun c146 => ?_)
                                      · -- 146 taken
                                        refine lv_iconst (v := 0) hx hb dX4_choose_153 (by decide) ?_
                                        refine lv_istore (lv' := [(11, .int (0)), (10, .int (mdo (M) (cu) n (h))), (9, .int (mdo (M) (cu) n (tw))), (8, .int (mdo (M) (cu) n (o))), (7, .int (nI (h))), (6, .int (nI (tw))), (5, .int (nI (o))), (4, .int (nI (mn))), (0, .ref (a 0)), (1, .int (cu)), (2, .long (sm))]) hx hb dX4_choose_154 hl (by decide) rfl (fun ls hl => ?_)
                                        refine lv_iload hx hb dX4_choose_156 (lv_at hl 0 rfl) ?_
                                        refine lv_if_eq (tgt := 242) hx hb dX4_choose_158 (by decide) (fun c158 => ?_) (fun c158 => ?_)
                                        · -- 158 taken
                                          have hno : ¬ hit M cu sm n mn o tw h := fun z => absurd c127 (z.2.2.1.mpr (by omega))
                                          have hg4 : srch (f3 M cu sm n mn o tw) (41 - (if 2 < mn then tw + 1 else 40)) (if 2 < mn then tw + 1 else 40) = srch (f3 M cu sm n mn o tw) (41 - (h + 1)) (h + 1) := by rw [hg3, show 41 - h = (41 - (h + 1)) + 1 by omega, srch, show f3 M cu sm n mn o tw h = none from if_neg hno]
                                          refine lv_iinc (v := nI (h + 1)) (lv' := [(7, .int (nI (h + 1))), (11, .int (0)), (10, .int (mdo (M) (cu) n (h))), (9, .int (mdo (M) (cu) n (tw))), (8, .int (mdo (M) (cu) n (o))), (6, .int (nI (tw))), (5, .int (nI (o))), (4, .int (nI (mn))), (0, .ref (a 0)), (1, .int (cu)), (2, .long (sm))]) hx hb dX4_choose_242 hl (k := 4) rfl (nI_1 _) (by decide) rfl (fun ls hl => ?_)
                                          refine lv_goto (tgt := 62) hx hb dX4_choose_245 (by decide) ?_
                                          exact ih62 (h + 1) (by omega) hg4 (by omega) _ _ hP hD hS _ (lv_sub hl [0, 5, 6, 7, 8, 9, 10] rfl)
                                        · -- 158 on
                                          exact absurd c158 (by decide)
                                      · -- 146 on
                                        exact absurd c146 (by decide)
                                  · -- 127 on
                                    refine lv_iconst (v := 1) hx hb dX4_choose_130 (by decide) ?_
                                    refine lv_goto (tgt := 135) hx hb dX4_choose_131 (by decide) ?_
                                    refine lv_iload hx hb dX4_choose_135 (lv_at hl 6 rfl) ?_
                                    refine lv_iconst (v := nI (2)) hx hb dX4_choose_137 (by decide) ?_
                                    refine lv_icmp_le (tgt := 145) hx hb dX4_choose_138 (by decide) (fun c138 => ?_) (fun c138 => ?_)
                                    · -- 138 taken
                                      rw [nI_leI (by omega) (by omega)] at c138
                                      refine lv_iconst (v := 0) hx hb dX4_choose_145 (by decide) ?_
                                      refine lv_icmp_ne (tgt := 153) hx hb dX4_choose_146 (by decide) (fun c146 => ?_) (fun c146 => ?_)
                                      · -- 146 taken
                                        refine lv_iconst (v := 0) hx hb dX4_choose_153 (by decide) ?_
                                        refine lv_istore (lv' := [(11, .int (0)), (10, .int (mdo (M) (cu) n (h))), (9, .int (mdo (M) (cu) n (tw))), (8, .int (mdo (M) (cu) n (o))), (7, .int (nI (h))), (6, .int (nI (tw))), (5, .int (nI (o))), (4, .int (nI (mn))), (0, .ref (a 0)), (1, .int (cu)), (2, .long (sm))]) hx hb dX4_choose_154 hl (by decide) rfl (fun ls hl => ?_)
                                        refine lv_iload hx hb dX4_choose_156 (lv_at hl 0 rfl) ?_
                                        refine lv_if_eq (tgt := 242) hx hb dX4_choose_158 (by decide) (fun c158 => ?_) (fun c158 => ?_)
                                        · -- 158 taken
                                          have hno : ¬ hit M cu sm n mn o tw h := fun z => absurd (z.2.2.1.mp c127) (by omega)
                                          have hg4 : srch (f3 M cu sm n mn o tw) (41 - (if 2 < mn then tw + 1 else 40)) (if 2 < mn then tw + 1 else 40) = srch (f3 M cu sm n mn o tw) (41 - (h + 1)) (h + 1) := by rw [hg3, show 41 - h = (41 - (h + 1)) + 1 by omega, srch, show f3 M cu sm n mn o tw h = none from if_neg hno]
                                          refine lv_iinc (v := nI (h + 1)) (lv' := [(7, .int (nI (h + 1))), (11, .int (0)), (10, .int (mdo (M) (cu) n (h))), (9, .int (mdo (M) (cu) n (tw))), (8, .int (mdo (M) (cu) n (o))), (6, .int (nI (tw))), (5, .int (nI (o))), (4, .int (nI (mn))), (0, .ref (a 0)), (1, .int (cu)), (2, .long (sm))]) hx hb dX4_choose_242 hl (k := 4) rfl (nI_1 _) (by decide) rfl (fun ls hl => ?_)
                                          refine lv_goto (tgt := 62) hx hb dX4_choose_245 (by decide) ?_
                                          exact ih62 (h + 1) (by omega) hg4 (by omega) _ _ hP hD hS _ (lv_sub hl [0, 5, 6, 7, 8, 9, 10] rfl)
                                        · -- 158 on
                                          exact absurd c158 (by decide)
                                      · -- 146 on
                                        exact absurd c146 (by decide)
                                    · -- 138 on
                                      rw [nI_leI (by omega) (by omega)] at c138
                                      refine lv_iconst (v := 1) hx hb dX4_choose_141 (by decide) ?_
                                      refine lv_goto (tgt := 146) hx hb dX4_choose_142 (by decide) ?_
                                      refine lv_icmp_ne (tgt := 153) hx hb dX4_choose_146 (by decide) (fun c146 => ?_) (fun c146 => ?_)
                                      · -- 146 taken
                                        exact absurd c146 (by decide)
                                      · -- 146 on
                                        refine lv_iconst (v := 1) hx hb dX4_choose_149 (by decide) ?_
                                        refine lv_goto (tgt := 154) hx hb dX4_choose_150 (by decide) ?_
                                        refine lv_istore (lv' := [(11, .int (1)), (10, .int (mdo (M) (cu) n (h))), (9, .int (mdo (M) (cu) n (tw))), (8, .int (mdo (M) (cu) n (o))), (7, .int (nI (h))), (6, .int (nI (tw))), (5, .int (nI (o))), (4, .int (nI (mn))), (0, .ref (a 0)), (1, .int (cu)), (2, .long (sm))]) hx hb dX4_choose_154 hl (by decide) rfl (fun ls hl => ?_)
                                        refine lv_iload hx hb dX4_choose_156 (lv_at hl 0 rfl) ?_
                                        refine lv_if_eq (tgt := 242) hx hb dX4_choose_158 (by decide) (fun c158 => ?_) (fun c158 => ?_)
                                        · -- 158 taken
                                          exact absurd c158 (by decide)
                                        · -- 158 on
                                          refine lv_iload hx hb dX4_choose_161 (lv_at hl 3 rfl) ?_
                                          refine lv_i2l (v := (mdo (M) (cu) n (o)).toInt64) hx hb dX4_choose_163 rfl ?_
                                          refine lv_iload hx hb dX4_choose_164 (lv_at hl 2 rfl) ?_
                                          refine lv_if_ge (tgt := 173) hx hb dX4_choose_166 (by decide) (fun c166 => ?_) (fun c166 => ?_)
                                          · -- 166 taken
                                            refine lv_iload hx hb dX4_choose_173 (lv_at hl 2 rfl) ?_
                                            refine lv_i2l (v := (mdo (M) (cu) n (tw)).toInt64) hx hb dX4_choose_175 rfl ?_
                                            refine lv_ladd hx hb dX4_choose_176 ?_
                                            refine lv_iload hx hb dX4_choose_177 (lv_at hl 1 rfl) ?_
                                            refine lv_if_ge (tgt := 186) hx hb dX4_choose_179 (by decide) (fun c179 => ?_) (fun c179 => ?_)
                                            · -- 179 taken
                                              refine lv_iload hx hb dX4_choose_186 (lv_at hl 1 rfl) ?_
                                              refine lv_i2l (v := (mdo (M) (cu) n (h)).toInt64) hx hb dX4_choose_188 rfl ?_
                                              refine lv_ladd hx hb dX4_choose_189 ?_
                                              refine lv_lload_n hx hb dX4_choose_190 rfl (lv_at hl 10 rfl) ?_
                                              refine W.lcmp hx hb dX4_choose_191 ?_
                                              refine lv_if_ne (tgt := 242) hx hb dX4_choose_192 (by decide) (fun c192 => ?_) (fun c192 => ?_)
                                              · -- 192 taken
                                                have hno : ¬ hit M cu sm n mn o tw h := fun z => c192 ((lg_cmp_eq _ _).mpr (by have z4 := z.2.2.2; rw [if_neg c103, if_neg c127] at z4; exact z4))
                                                have hg4 : srch (f3 M cu sm n mn o tw) (41 - (if 2 < mn then tw + 1 else 40)) (if 2 < mn then tw + 1 else 40) = srch (f3 M cu sm n mn o tw) (41 - (h + 1)) (h + 1) := by rw [hg3, show 41 - h = (41 - (h + 1)) + 1 by omega, srch, show f3 M cu sm n mn o tw h = none from if_neg hno]
                                                refine lv_iinc (v := nI (h + 1)) (lv' := [(7, .int (nI (h + 1))), (11, .int (1)), (10, .int (mdo (M) (cu) n (h))), (9, .int (mdo (M) (cu) n (tw))), (8, .int (mdo (M) (cu) n (o))), (6, .int (nI (tw))), (5, .int (nI (o))), (4, .int (nI (mn))), (0, .ref (a 0)), (1, .int (cu)), (2, .long (sm))]) hx hb dX4_choose_242 hl (k := 4) rfl (nI_1 _) (by decide) rfl (fun ls hl => ?_)
                                                refine lv_goto (tgt := 62) hx hb dX4_choose_245 (by decide) ?_
                                                exact ih62 (h + 1) (by omega) hg4 (by omega) _ _ hP hD hS _ (lv_sub hl [0, 5, 6, 7, 8, 9, 10] rfl)
                                              · -- 192 on
                                                have hyes : hit M cu sm n mn o tw h := ⟨c98, ⟨fun _ => by omega, fun _ => c103⟩, ⟨fun _ => by omega, fun _ => c127⟩, by rw [if_neg c103, if_neg c127]; exact (lg_cmp_eq _ _).mp c192⟩
                                                have r3 : srch (f3 M cu sm n mn o tw) (41 - (if 2 < mn then tw + 1 else 40)) (if 2 < mn then tw + 1 else 40) = some h := by rw [hg3, show 41 - h = (41 - (h + 1)) + 1 by omega, srch, show f3 M cu sm n mn o tw h = some h from if_pos hyes]
                                                have r2 : srch (f2 M cu sm n mn o) (41 - (if 1 < mn then o + 1 else 40)) (if 1 < mn then o + 1 else 40) = some (tw, h) := by rw [hg2, show 41 - tw = (41 - (tw + 1)) + 1 by omega, srch, show f2 M cu sm n mn o tw = some (tw, h) by unfold f2; rw [r3]; rfl]
                                                have r1 : srch (f1 M cu sm n mn) n 0 = some (o, tw, h) := by rw [hg1, show n - o = (n - (o + 1)) + 1 by omega, srch, show f1 M cu sm n mn o = some (o, tw, h) by unfold f1; rw [r2]; rfl]
                                                have r0 : mcs M cu sm n = some (mn, o, tw, h) := by unfold mcs; rw [hg0, show 4 - mn = (4 - (mn + 1)) + 1 by omega, srch, show f0 M cu sm n mn = some (mn, o, tw, h) by unfold f0; rw [r1]; rfl]
                                                refine lv_aload_n hx hb dX4_choose_195 rfl (lv_at hl 8 rfl) ?_
                                                refine va_get (D := D) (ci := 4) (v := .ref (a 20)) (C := RX4) (T := TX4) (N := 24) hx hb hts (fun w h => List.mem_cons_of_mem _ (List.mem_append_right _ h)) hown hK hP 0 rfl rfl 23 (by decide) (hts (.fieldLink RX4 68 "CashAllocatorModel" "chosen" "[I") (by decide +kernel)) (fun _ h9 => h9) rfl dX4_choose_196 ?_
                                                refine lv_iconst (v := 0) hx hb dX4_choose_199 (by decide) ?_
                                                refine lv_iload hx hb dX4_choose_200 (lv_at hl 6 rfl) ?_
                                                refine zast hx hb hK hP hD hS 20 (n := 3) (f := (M 23)) rfl (0) rfl (by omega) (by decide) (wM a cI cZ (pt M 23 (0) (nI (o)))) rfl dX4_choose_202 (fun H locs hP hD hS => ?_)
                                                refine lv_aload_n hx hb dX4_choose_203 rfl (lv_at hl 8 rfl) ?_
                                                refine va_get (D := D) (ci := 4) (v := .ref (a 20)) (C := RX4) (T := TX4) (N := 24) hx hb hts (fun w h => List.mem_cons_of_mem _ (List.mem_append_right _ h)) hown hK hP 0 rfl rfl 23 (by decide) (hts (.fieldLink RX4 68 "CashAllocatorModel" "chosen" "[I") (by decide +kernel)) (fun _ h9 => h9) rfl dX4_choose_204 ?_
                                                refine lv_iconst (v := 1) hx hb dX4_choose_207 (by decide) ?_
                                                refine lv_iload hx hb dX4_choose_208 (lv_at hl 7 rfl) ?_
                                                refine lv_iconst (v := nI (1)) hx hb dX4_choose_210 (by decide) ?_
                                                refine lv_icmp_le (tgt := 219) hx hb dX4_choose_211 (by decide) (fun c211 => ?_) (fun c211 => ?_)
                                                · -- 211 taken
                                                  rw [nI_leI (by omega) (by omega)] at c211
                                                  (first | omega | exact absurd c211 c114 | exact absurd c114 c211 | exact absurd (lt_of_nge32 c211) c114 | exact absurd (lt_of_nge32 c114) c211 | exact absurd c114 (not_lt_of_ge32 c211) | exact absurd c211 (not_lt_of_ge32 c114))
                                                · -- 211 on
                                                  rw [nI_leI (by omega) (by omega)] at c211
                                                  refine lv_iload hx hb dX4_choose_214 (lv_at hl 5 rfl) ?_
                                                  refine lv_goto (tgt := 220) hx hb dX4_choose_216 (by decide) ?_
                                                  refine zast hx hb hK hP hD hS 20 (n := 3) (f := ((pt M 23 (0) (nI (o))) 23)) rfl (1) rfl (by omega) (by decide) (wM a cI cZ (pt (pt M 23 (0) (nI (o))) 23 (1) (nI (tw)))) rfl dX4_choose_220 (fun H locs hP hD hS => ?_)
                                                  refine lv_aload_n hx hb dX4_choose_221 rfl (lv_at hl 8 rfl) ?_
                                                  refine va_get (D := D) (ci := 4) (v := .ref (a 20)) (C := RX4) (T := TX4) (N := 24) hx hb hts (fun w h => List.mem_cons_of_mem _ (List.mem_append_right _ h)) hown hK hP 0 rfl rfl 23 (by decide) (hts (.fieldLink RX4 68 "CashAllocatorModel" "chosen" "[I") (by decide +kernel)) (fun _ h9 => h9) rfl dX4_choose_222 ?_
                                                  refine lv_iconst (v := 2) hx hb dX4_choose_225 (by decide) ?_
                                                  refine lv_iload hx hb dX4_choose_226 (lv_at hl 7 rfl) ?_
                                                  refine lv_iconst (v := nI (2)) hx hb dX4_choose_228 (by decide) ?_
                                                  refine lv_icmp_le (tgt := 237) hx hb dX4_choose_229 (by decide) (fun c229 => ?_) (fun c229 => ?_)
                                                  · -- 229 taken
                                                    rw [nI_leI (by omega) (by omega)] at c229
                                                    (first | omega | exact absurd c229 c138 | exact absurd c138 c229 | exact absurd (lt_of_nge32 c229) c138 | exact absurd (lt_of_nge32 c138) c229 | exact absurd c138 (not_lt_of_ge32 c229) | exact absurd c229 (not_lt_of_ge32 c138))
                                                  · -- 229 on
                                                    rw [nI_leI (by omega) (by omega)] at c229
                                                    refine lv_iload hx hb dX4_choose_232 (lv_at hl 4 rfl) ?_
                                                    refine lv_goto (tgt := 238) hx hb dX4_choose_234 (by decide) ?_
                                                    refine zast hx hb hK hP hD hS 20 (n := 3) (f := ((pt (pt M 23 (0) (nI (o))) 23 (1) (nI (tw))) 23)) rfl (2) rfl (by omega) (by decide) (wM a cI cZ (pt (pt (pt M 23 (0) (nI (o))) 23 (1) (nI (tw))) 23 (2) (nI (h)))) rfl dX4_choose_238 (fun H locs hP hD hS => ?_)
                                                    refine lv_iload hx hb dX4_choose_239 (lv_at hl 7 rfl) ?_
                                                    exact W.iret (v := nI (mn)) hx hb hr (fun t ht hW => ⟨⟨nI (mn), (pt (pt (pt M 23 (0) (nI (o))) 23 (1) (nI (tw))) 23 (2) (nI (h))), rfl, ⟨by rw [r0]; rfl, by rw [r0]; simp only [mcS]; rw [if_pos (show 1 < mn by omega), if_pos (show 2 < mn by omega)]⟩, by rw [ht]; exact hP, va_K.moved hW.alike hK, hD⟩, hS.F ht⟩) hS.2.2 dX4_choose_241
                                            · -- 179 on
                                              (first | omega | exact absurd c179 c127 | exact absurd c127 c179 | exact absurd (lt_of_nge32 c179) c127 | exact absurd (lt_of_nge32 c127) c179 | exact absurd c127 (not_lt_of_ge32 c179) | exact absurd c179 (not_lt_of_ge32 c127))
                                          · -- 166 on
                                            (first | omega | exact absurd c166 c103 | exact absurd c103 c166 | exact absurd (lt_of_nge32 c166) c103 | exact absurd (lt_of_nge32 c103) c166 | exact absurd c103 (not_lt_of_ge32 c166) | exact absurd c166 (not_lt_of_ge32 c103))
                    refine lv_iload hx hb dX4_choose_45 (lv_at hl 2 rfl) ?_
                    refine lv_iconst (v := nI (2)) hx hb dX4_choose_47 (by decide) ?_
                    refine lv_icmp_le (tgt := 58) hx hb dX4_choose_48 (by decide) (fun c48 => ?_) (fun c48 => ?_)
                    · -- 48 taken
                      rw [nI_leI (by omega) (by omega)] at c48
                      refine lv_bipush (v := nI (40)) hx hb dX4_choose_58 (by decide) ?_
                      refine lv_istore (lv' := [(7, .int (nI (40))), (6, .int (nI (tw))), (5, .int (nI (o))), (4, .int (nI (mn))), (0, .ref (a 0)), (1, .int (cu)), (2, .long (sm))]) hx hb dX4_choose_60 hl (by decide) rfl (fun ls hl => ?_)
                      exact loop62 _ 40 (by omega) (by rw [if_neg (show ¬ 2 < mn by omega)]) (Nat.lt_succ_self _) _ _ hP hD hS _ (lv_sub hl [0, 1, 2, 3, 4, 5, 6] rfl)
                    · -- 48 on
                      rw [nI_leI (by omega) (by omega)] at c48
                      refine lv_iload hx hb dX4_choose_51 (lv_at hl 0 rfl) ?_
                      refine lv_iconst (v := 1) hx hb dX4_choose_53 (by decide) ?_
                      refine lv_iadd hx hb dX4_choose_54 ?_
                      rw [nI_1]
                      refine lv_goto (tgt := 60) hx hb dX4_choose_55 (by decide) ?_
                      refine lv_istore (lv' := [(7, .int (nI (tw + 1))), (6, .int (nI (tw))), (5, .int (nI (o))), (4, .int (nI (mn))), (0, .ref (a 0)), (1, .int (cu)), (2, .long (sm))]) hx hb dX4_choose_60 hl (by decide) rfl (fun ls hl => ?_)
                      exact loop62 _ (tw + 1) (by omega) (by rw [if_pos (show 2 < mn by omega)]) (Nat.lt_succ_self _) _ _ hP hD hS _ (lv_sub hl [0, 1, 2, 3, 4, 5, 6] rfl)
              refine lv_iload hx hb dX4_choose_21 (lv_at hl 1 rfl) ?_
              refine lv_iconst (v := nI (1)) hx hb dX4_choose_23 (by decide) ?_
              refine lv_icmp_le (tgt := 34) hx hb dX4_choose_24 (by decide) (fun c24 => ?_) (fun c24 => ?_)
              · -- 24 taken
                rw [nI_leI (by omega) (by omega)] at c24
                refine lv_bipush (v := nI (40)) hx hb dX4_choose_34 (by decide) ?_
                refine lv_istore (lv' := [(6, .int (nI (40))), (5, .int (nI (o))), (4, .int (nI (mn))), (0, .ref (a 0)), (1, .int (cu)), (2, .long (sm))]) hx hb dX4_choose_36 hl (by decide) rfl (fun ls hl => ?_)
                exact loop38 _ 40 (by omega) (by rw [if_neg (show ¬ 1 < mn by omega)]) (Nat.lt_succ_self _) _ _ hP hD hS _ (lv_sub hl [0, 1, 2, 3, 4, 5] rfl)
              · -- 24 on
                rw [nI_leI (by omega) (by omega)] at c24
                refine lv_iload hx hb dX4_choose_27 (lv_at hl 0 rfl) ?_
                refine lv_iconst (v := 1) hx hb dX4_choose_29 (by decide) ?_
                refine lv_iadd hx hb dX4_choose_30 ?_
                rw [nI_1]
                refine lv_goto (tgt := 36) hx hb dX4_choose_31 (by decide) ?_
                refine lv_istore (lv' := [(6, .int (nI (o + 1))), (5, .int (nI (o))), (4, .int (nI (mn))), (0, .ref (a 0)), (1, .int (cu)), (2, .long (sm))]) hx hb dX4_choose_36 hl (by decide) rfl (fun ls hl => ?_)
                exact loop38 _ (o + 1) (by omega) (by rw [if_pos (show 1 < mn by omega)]) (Nat.lt_succ_self _) _ _ hP hD hS _ (lv_sub hl [0, 1, 2, 3, 4, 5] rfl)
        exact loop12 _ (0) (Nat.zero_le _) (rfl) (Nat.lt_succ_self _) _ _ hP hD hS _ (lv_sub hl [0, 1, 2, 3, 4] rfl)
  exact loop3 _ (1) (Nat.le_refl _) (by omega) (rfl) (Nat.lt_succ_self _) _ _ hP hD hS _ (lv_sub hl [0, 1, 2, 3] rfl)
set_option maxHeartbeats 4000000 in
set_option maxRecDepth 100000 in
theorem c_X4_payOthers (l : Launch) (D : va_G) (cI cZ : ClassId) (a : Nat → Nat) (sz : Nat) (M : Nat → Nat → Int32) (rc : Nat) (n : Nat) (hrc : rc < 30) (hM : M 2 0 = nI n) (hn : n ≤ 40) (hso : ∀ i j, i ≤ j → j < n → M 6 i ≤ M 6 j) (hs0 : ∀ i, i < n → 0 ≤ M 6 i) : Met l yX4_payOthers wsX4_payOthers ({ frames := 5, cells := 0, slots := 0, locals := 117 } : Room) (va_Pc [.ref (a 0), .int (nI (rc))] (PreW D cI cZ (wM a cI cZ M) sz)) (va_Qv (fun (u : Nat → Nat → Int32) => u = moth M rc n) (fun (u : Nat → Nat → Int32) => PostW D cI cZ (va_A (wM a cI cZ M) sz) (wM a cI cZ u)) (va_A (wM a cI cZ M) sz)) 0 0 (va_A (wM a cI cZ M) sz) := by
  refine Met.ofW (cc := cX4_payOthers) (maxL := 11) (ret := none) (by decide) rfl ?_
  intro p e s m args below meth c s₁ BB hml hv
  obtain ⟨rfl, hsz, hP, hK, hD0⟩ := hv
  have hx := BB.exec
  have hb := BB.bytes
  have hr := BB.returns
  have hts := atoms_spec (ws := wsX4_payOthers) BB.pre
  have hown : s.vm.findClass RX4 = some m.cls := findClass_of_methodNamed BB.named
  have hlocks := BB.notSynchronized
  clear BB
  subst hsz
  have hD := hD0.self (sz := s.heap.size)
  clear hD0
  generalize hAe : va_A (wM a cI cZ M) s.heap.size = A at hD ⊢
  have hA : ∀ q : Nat, s.heap.size ≤ q → A q := fun q h => by rw [← hAe]; exact Or.inr h
  clear hAe
  have hS : va_S A s.heap s.heap [] := va_S.rf
  have hl := lv_entry ([.ref (a 0), .int (nI (rc))]) (n := 11) (Nat.le_of_ble_eq_true rfl)
  rw [lg_entry_eq]
  generalize (lg_sl ([.ref (a 0), .int (nI (rc))]) ++ List.replicate (11 - (lg_sl ([.ref (a 0), .int (nI (rc))])).length) Slot.unset).toArray = ls at hl ⊢
  have hl : lv_has ls 11 [(0, .ref (a 0)), (1, .int (nI (rc)))] := hl
  generalize hHe : s.heap = H at hP
  have hS : va_S A s.heap H [] := by rw [← hHe]; exact va_S.rf
  clear hHe
  generalize hLe : ([] : List Loc) = locs at hS ⊢
  clear hLe
  refine lv_aload_n hx hb dX4_payOthers_0 rfl (lv_at hl 0 rfl) ?_
  refine va_get (D := D) (ci := 4) (v := .ref (a 14)) (C := RX4) (T := TX4) (N := 24) hx hb hts (fun w h => List.mem_cons_of_mem _ (List.mem_append_right _ h)) hown hK hP 0 rfl rfl 17 (by decide) (hts (.fieldLink RX4 49 "CashAllocatorModel" "payers" "[I") (by decide +kernel)) (fun _ h9 => h9) rfl dX4_payOthers_1 ?_
  refine lv_iload_n hx hb dX4_payOthers_4 rfl (lv_at hl 1 rfl) ?_
  refine zald hx hb hK hP 14 (n := 30) (f := (M 17)) rfl (rc) rfl (by omega) (by decide) dX4_payOthers_5 ?_
  refine lv_istore_n (lv' := [(2, .int (M 17 (rc))), (0, .ref (a 0)), (1, .int (nI (rc)))]) hx hb dX4_payOthers_6 rfl hl (by decide) rfl (fun ls hl => ?_)
  obtain ⟨cv, hcv⟩ : ∃ z, z = M 17 rc := ⟨_, rfl⟩
  rw [← hcv] at hl
  have hl : lv_has ls 11 [(2, .int (cv)), (0, .ref (a 0)), (1, .int (nI (rc)))] := hl
  refine lv_iload_n hx hb dX4_payOthers_7 rfl (lv_at hl 0 rfl) ?_
  refine lv_iconst (v := (-1)) hx hb dX4_payOthers_8 (by decide) ?_
  refine lv_icmp_eq (tgt := 21) hx hb dX4_payOthers_9 (by decide) (fun c9 => ?_) (fun c9 => ?_)
  · -- 9 taken
    exact W.vret hx hb hr (fun t ht hW => ⟨⟨M, rfl, (by unfold moth; rw [if_pos (Or.inl (by rw [← hcv]; exact c9))]), by rw [ht]; exact hP, va_K.moved hW.alike hK, hD⟩, hS.F ht⟩) hS.2.2 dX4_payOthers_21
  · -- 9 on
    refine lv_aload_n hx hb dX4_payOthers_12 rfl (lv_at hl 1 rfl) ?_
    refine va_get (D := D) (ci := 4) (v := .ref (a 15)) (C := RX4) (T := TX4) (N := 24) hx hb hts (fun w h => List.mem_cons_of_mem _ (List.mem_append_right _ h)) hown hK hP 0 rfl rfl 18 (by decide) (hts (.fieldLink RX4 52 "CashAllocatorModel" "left" "[I") (by decide +kernel)) (fun _ h9 => h9) rfl dX4_payOthers_13 ?_
    refine lv_iload_n hx hb dX4_payOthers_16 rfl (lv_at hl 2 rfl) ?_
    refine zald hx hb hK hP 15 (n := 30) (f := (M 18)) rfl (rc) rfl (by omega) (by decide) dX4_payOthers_17 ?_
    refine lv_if_ne (tgt := 22) hx hb dX4_payOthers_18 (by decide) (fun c18 => ?_) (fun c18 => ?_)
    · -- 18 taken
      refine lv_aload_n hx hb dX4_payOthers_22 rfl (lv_at hl 1 rfl) ?_
      refine lv_iload_n hx hb dX4_payOthers_23 rfl (lv_at hl 0 rfl) ?_
      refine lv_aload_n hx hb dX4_payOthers_24 rfl (lv_at hl 1 rfl) ?_
      refine va_get (D := D) (ci := 4) (v := .ref (a 15)) (C := RX4) (T := TX4) (N := 24) hx hb hts (fun w h => List.mem_cons_of_mem _ (List.mem_append_right _ h)) hown hK hP 0 rfl rfl 18 (by decide) (hts (.fieldLink RX4 52 "CashAllocatorModel" "left" "[I") (by decide +kernel)) (fun _ h9 => h9) rfl dX4_payOthers_25 ?_
      refine lv_iload_n hx hb dX4_payOthers_28 rfl (lv_at hl 2 rfl) ?_
      refine zald hx hb hK hP 15 (n := 30) (f := (M 18)) rfl (rc) rfl (by omega) (by decide) dX4_payOthers_29 ?_
      refine lv_i2l (v := (M 18 (rc)).toInt64) hx hb dX4_payOthers_30 rfl ?_
      refine zcVi (ci := 4) (q0 := 0) (wf := (fun (u : Nat → Nat → Int32) => (wM a cI cZ u))) (List.range 21) ⟨hx, hb, hml, hown, hts⟩ (zwAll 21 (by decide) rfl hP hD hS hA) hK (c_X4_choose l D cI cZ a H.size (M) (cv) ((M 18 (rc)).toInt64) (n) (by first | assumption | omega) (by first | assumption | omega)) (cwV 2 hts gX4_payOthers_X4_choose rfl rfl rfl (by decide +kernel) ⟨Nat.le_of_ble_eq_true rfl, Nat.le_of_ble_eq_true rfl⟩) rfl rfl (by decide) (fun _ => rfl) rfl hl.1 rfl (Nat.le_of_ble_eq_true rfl) dX4_payOthers_31 ⟨Nat.le_of_ble_eq_true rfl, Nat.le_of_ble_eq_true rfl⟩ (fun r31 u H locs hw hP hD hS => ?_)
      obtain ⟨rfl, rfl⟩ := hw
      have hP : va_P D vwCl (wM a cI cZ (mcS (M) (mcs (M) (cv) ((M 18 (rc)).toInt64) n))) H := hP
      have hD : va_D A (wM a cI cZ (mcS (M) (mcs (M) (cv) ((M 18 (rc)).toInt64) n))) := hD
      have hml3 := mcs_y M cv (M 18 rc).toInt64 n
      obtain ⟨mny, hmny⟩ : ∃ z, z = mcN (mcs M cv (M 18 rc).toInt64 n) := ⟨_, rfl⟩
      rw [← hmny]
      have hM1 : mcS M (mcs M cv (M 18 rc).toInt64 n) 2 0 = nI n := by rw [mcS_o (by decide)]; exact hM
      have h61 : ∀ i, mcS M (mcs M cv (M 18 rc).toInt64 n) 6 i = M 6 i := fun i => mcS_o (by decide)
      have hm3 : mny ≤ 3 := by rw [hmny]; exact hml3.1
      have hch1 : ∀ j, j < mny → ∃ x, x < 40 ∧ mcS M (mcs M cv (M 18 rc).toInt64 n) 23 j = nI x := fun j hj => by obtain ⟨x, g1, g2⟩ := hml3.2 j (by rw [← hmny]; exact hj); exact ⟨x, by omega, g2⟩
      have hst : moth M rc n = mold rc cv n 0 (mex rc (mny - 0) 0 (mcS M (mcs M cv (M 18 rc).toInt64 n))) := by unfold moth; rw [← hcv, if_neg (fun z => z.elim c9 c18), ← hmny]; rfl
      refine lv_istore_n (lv' := [(3, .int (nI (mny))), (2, .int (cv)), (0, .ref (a 0)), (1, .int (nI (rc)))]) hx hb dX4_payOthers_34 rfl hl (by decide) rfl (fun ls hl => ?_)
      refine lv_iconst (v := nI (0)) hx hb dX4_payOthers_35 (by decide) ?_
      refine lv_istore (lv' := [(4, .int (nI (0))), (3, .int (nI (mny))), (2, .int (cv)), (0, .ref (a 0)), (1, .int (nI (rc)))]) hx hb dX4_payOthers_36 hl (by decide) rfl (fun ls hl => ?_)
      have loop38 : ∀ (fu : Nat) (k : Nat) (Mi : Nat → Nat → Int32) (hkm : k ≤ mny) (hMi : Mi 2 0 = nI n) (h6 : ∀ i, Mi 6 i = M 6 i) (hch : ∀ j, j < mny → ∃ x, x < 40 ∧ Mi 23 j = nI x) (hg : moth M rc n = mold rc cv n 0 (mex rc (mny - k) k Mi)) (hfu : mny - k < fu) (H : Heap) (locs : List Loc) (hP : va_P D vwCl (wM a cI cZ Mi) H) (hD : va_D A (wM a cI cZ Mi)) (hS : va_S A s.heap H locs) (ls : Array Slot) (hl : lv_has ls 11 [(4, .int (nI (k))), (3, .int (nI (mny))), (0, .ref (a 0)), (1, .int (nI (rc))), (2, .int (cv))]), W p l e (headSpec wsX4_payOthers ({ frames := 5, cells := 0, slots := 0, locals := 117 } : Room)).room s m ([.ref (a 0), .int (nI (rc))] : List Value).toArray below meth c H locs 0 0 (MQ below (va_Qv (fun (u : Nat → Nat → Int32) => u = moth M rc n) (fun (u : Nat → Nat → Int32) => PostW D cI cZ A (wM a cI cZ u)) A) ([.ref (a 0), .int (nI (rc))] : List Value).toArray s 0 0 A) (F0 m 38 ls []) := by
        clear hP hD hS hl
        intro fu38
        induction fu38 with
        | zero => intro k Mi hkm hMi h6 hch hg hfu; exact absurd hfu (Nat.not_lt_zero _)
        | succ fu38 ih38 =>
          intro k Mi hkm hMi h6 hch hg hfu H locs hP hD hS ls hl
          refine lv_iload hx hb dX4_payOthers_38 (lv_at hl 0 rfl) ?_
          refine lv_iload_n hx hb dX4_payOthers_40 rfl (lv_at hl 1 rfl) ?_
          refine lv_icmp_ge (tgt := 63) hx hb dX4_payOthers_41 (by decide) (fun c41 => ?_) (fun c41 => ?_)
          · -- 41 taken
            rw [nI_leI (by omega) (by omega)] at c41
            have hst2 : moth M rc n = mold rc cv (n - 0) 0 Mi := by rw [hg, show mny - k = 0 by omega]; rfl
            refine lv_iconst (v := (-1)) hx hb dX4_payOthers_63 (by decide) ?_
            refine lv_istore (lv' := [(4, .int ((-1))), (3, .int (nI (mny))), (0, .ref (a 0)), (1, .int (nI (rc))), (2, .int (cv))]) hx hb dX4_payOthers_64 hl (by decide) rfl (fun ls hl => ?_)
            refine lv_iconst (v := (-1)) hx hb dX4_payOthers_66 (by decide) ?_
            refine lv_istore (lv' := [(5, .int ((-1))), (4, .int ((-1))), (3, .int (nI (mny))), (0, .ref (a 0)), (1, .int (nI (rc))), (2, .int (cv))]) hx hb dX4_payOthers_67 hl (by decide) rfl (fun ls hl => ?_)
            refine lv_iconst (v := nI (1)) hx hb dX4_payOthers_69 (by decide) ?_
            refine lv_istore (lv' := [(6, .int (nI (1))), (5, .int ((-1))), (4, .int ((-1))), (3, .int (nI (mny))), (0, .ref (a 0)), (1, .int (nI (rc))), (2, .int (cv))]) hx hb dX4_payOthers_70 hl (by decide) rfl (fun ls hl => ?_)
            have loop72 : ∀ (fu : Nat) (i0 : Nat) (Mi : Nat → Nat → Int32) (la : Int32) (ld : Int32) (mz : Nat) (hi0 : i0 ≤ n) (hMi : Mi 2 0 = nI n) (h6 : ∀ i, Mi 6 i = M 6 i) (hla : (i0 = 0 ∧ la = -1 ∧ ld = -1) ∨ ∃ j, i0 = j + 1 ∧ j < n ∧ la = nI j ∧ ld = Mi 6 j) (hmz : (mz = 1 ∧ moth M rc n = mold rc cv (n - i0) i0 Mi) ∨ (mz = 0 ∧ moth M rc n = Mi)) (hfu : (n - i0) + mz < fu) (H : Heap) (locs : List Loc) (hP : va_P D vwCl (wM a cI cZ Mi) H) (hD : va_D A (wM a cI cZ Mi)) (hS : va_S A s.heap H locs) (ls : Array Slot) (hl : lv_has ls 11 [(6, .int (nI (mz))), (5, .int (ld)), (4, .int (la)), (0, .ref (a 0)), (1, .int (nI (rc))), (2, .int (cv))]), W p l e (headSpec wsX4_payOthers ({ frames := 5, cells := 0, slots := 0, locals := 117 } : Room)).room s m ([.ref (a 0), .int (nI (rc))] : List Value).toArray below meth c H locs 0 0 (MQ below (va_Qv (fun (u : Nat → Nat → Int32) => u = moth M rc n) (fun (u : Nat → Nat → Int32) => PostW D cI cZ A (wM a cI cZ u)) A) ([.ref (a 0), .int (nI (rc))] : List Value).toArray s 0 0 A) (F0 m 72 ls []) := by
              clear hP hD hS hl
              intro fu72
              induction fu72 with
              | zero => intro i0 Mi la ld mz hi0 hMi h6 hla hmz hfu; exact absurd hfu (Nat.not_lt_zero _)
              | succ fu72 ih72 =>
                intro i0 Mi la ld mz hi0 hMi h6 hla hmz hfu H locs hP hD hS ls hl
                refine lv_aload_n hx hb dX4_payOthers_72 rfl (lv_at hl 3 rfl) ?_
                refine va_get (D := D) (ci := 4) (v := .ref (a 15)) (C := RX4) (T := TX4) (N := 24) hx hb hts (fun w h => List.mem_cons_of_mem _ (List.mem_append_right _ h)) hown hK hP 0 rfl rfl 18 (by decide) (hts (.fieldLink RX4 52 "CashAllocatorModel" "left" "[I") (by decide +kernel)) (fun _ h9 => h9) rfl dX4_payOthers_73 ?_
                refine lv_iload_n hx hb dX4_payOthers_76 rfl (lv_at hl 4 rfl) ?_
                refine zald hx hb hK hP 15 (n := 30) (f := (Mi 18)) rfl (rc) rfl (by omega) (by decide) dX4_payOthers_77 ?_
                refine lv_if_le (tgt := 256) hx hb dX4_payOthers_78 (by decide) (fun c78 => ?_) (fun c78 => ?_)
                · -- 78 taken
                  have hfin : Mi = moth M rc n := by exact hmz.elim (fun g => by rw [g.2, mold_d c78]) (fun g => by rw [g.2])
                  exact W.vret hx hb hr (fun t ht hW => ⟨⟨Mi, rfl, hfin, by rw [ht]; exact hP, va_K.moved hW.alike hK, hD⟩, hS.F ht⟩) hS.2.2 dX4_payOthers_256
                · -- 78 on
                  refine lv_iload hx hb dX4_payOthers_81 (lv_at hl 0 rfl) ?_
                  refine lv_if_eq (tgt := 256) hx hb dX4_payOthers_83 (by decide) (fun c83 => ?_) (fun c83 => ?_)
                  · -- 83 taken
                    have hfin : Mi = moth M rc n := by exact hmz.elim (fun g => by rw [g.1] at c83; exact absurd c83 (by decide)) (fun g => by rw [g.2])
                    exact W.vret hx hb hr (fun t ht hW => ⟨⟨Mi, rfl, hfin, by rw [ht]; exact hP, va_K.moved hW.alike hK, hD⟩, hS.F ht⟩) hS.2.2 dX4_payOthers_256
                  · -- 83 on
                    have hmz1 : mz = 1 ∧ moth M rc n = mold rc cv (n - i0) i0 Mi := hmz.elim id (fun g => by rw [g.1] at c83; exact absurd (by decide) c83)
                    have hsp : ∀ i j, i ≤ j → j < n → Mi 6 i ≤ Mi 6 j := fun i j g1 g2 => by rw [h6, h6]; exact hso i j g1 g2
                    have hs0p : ∀ i, i < n → 0 ≤ Mi 6 i := fun i g => by rw [h6]; exact hs0 i g
                    have hsq := And.intro hsp hs0p
                    have hmo := hmz1.2
                    refine lv_iconst (v := (-1)) hx hb dX4_payOthers_86 (by decide) ?_
                    refine lv_istore (lv' := [(7, .int ((-1))), (6, .int (nI (mz))), (5, .int (ld)), (4, .int (la)), (0, .ref (a 0)), (1, .int (nI (rc))), (2, .int (cv))]) hx hb dX4_payOthers_87 hl (by decide) rfl (fun ls hl => ?_)
                    refine lv_iconst (v := nI (0)) hx hb dX4_payOthers_89 (by decide) ?_
                    refine lv_istore (lv' := [(8, .int (nI (0))), (7, .int ((-1))), (6, .int (nI (mz))), (5, .int (ld)), (4, .int (la)), (0, .ref (a 0)), (1, .int (nI (rc))), (2, .int (cv))]) hx hb dX4_payOthers_90 hl (by decide) rfl (fun ls hl => ?_)
                    have loop92 : ∀ (fu : Nat) (i : Nat) (nx : Option Nat) (hin : i ≤ n) (hnx : NX Mi cv i0 i nx) (hfu : n - i < fu) (H : Heap) (locs : List Loc) (hP : va_P D vwCl (wM a cI cZ Mi) H) (hD : va_D A (wM a cI cZ Mi)) (hS : va_S A s.heap H locs) (ls : Array Slot) (hl : lv_has ls 11 [(8, .int (nI (i))), (7, .int (oI nx)), (6, .int (nI (mz))), (5, .int (ld)), (4, .int (la)), (0, .ref (a 0)), (1, .int (nI (rc))), (2, .int (cv))]), W p l e (headSpec wsX4_payOthers ({ frames := 5, cells := 0, slots := 0, locals := 117 } : Room)).room s m ([.ref (a 0), .int (nI (rc))] : List Value).toArray below meth c H locs 0 0 (MQ below (va_Qv (fun (u : Nat → Nat → Int32) => u = moth M rc n) (fun (u : Nat → Nat → Int32) => PostW D cI cZ A (wM a cI cZ u)) A) ([.ref (a 0), .int (nI (rc))] : List Value).toArray s 0 0 A) (F0 m 92 ls []) := by
                      clear hP hD hS hl
                      intro fu92
                      induction fu92 with
                      | zero => intro i nx hin hnx hfu; exact absurd hfu (Nat.not_lt_zero _)
                      | succ fu92 ih92 =>
                        intro i nx hin hnx hfu H locs hP hD hS ls hl
                        refine lv_iload hx hb dX4_payOthers_92 (lv_at hl 0 rfl) ?_
                        refine lv_aload_n hx hb dX4_payOthers_94 rfl (lv_at hl 5 rfl) ?_
                        refine va_get (D := D) (ci := 4) (v := .int (nI (n))) (C := RX4) (T := TX4) (N := 24) hx hb hts (fun w h => List.mem_cons_of_mem _ (List.mem_append_right _ h)) hown hK hP 0 rfl rfl 2 (by decide) (hts (.fieldLink RX4 79 "CashAllocatorModel" "bills" "I") (by decide +kernel)) (fun _ h9 => h9) (congrArg (fun z => some (Value.int z)) hMi) dX4_payOthers_95 ?_
                        refine lv_icmp_ge (tgt := 214) hx hb dX4_payOthers_98 (by decide) (fun c98 => ?_) (fun c98 => ?_)
                        · -- 98 taken
                          rw [nI_leI (by omega) (by omega)] at c98
                          refine lv_iload hx hb dX4_payOthers_214 (lv_at hl 1 rfl) ?_
                          refine lv_iconst (v := (-1)) hx hb dX4_payOthers_216 (by decide) ?_
                          refine lv_icmp_eq (tgt := 224) hx hb dX4_payOthers_217 (by decide) (fun c217 => ?_) (fun c217 => ?_)
                          · -- 217 taken
                            refine lv_iconst (v := 0) hx hb dX4_payOthers_224 (by decide) ?_
                            refine lv_istore (lv' := [(6, .int (0)), (8, .int (nI (i))), (7, .int (oI nx)), (5, .int (ld)), (4, .int (la)), (0, .ref (a 0)), (1, .int (nI (rc))), (2, .int (cv))]) hx hb dX4_payOthers_225 hl (by decide) rfl (fun ls hl => ?_)
                            refine lv_iload hx hb dX4_payOthers_227 (lv_at hl 0 rfl) ?_
                            refine lv_if_eq (tgt := 253) hx hb dX4_payOthers_229 (by decide) (fun c229 => ?_) (fun c229 => ?_)
                            · -- 229 taken
                              refine lv_goto (tgt := 72) hx hb dX4_payOthers_253 (by decide) ?_
                              exact ih72 i0 Mi la ld 0 hi0 hMi h6 hla (Or.inr ⟨rfl, by rw [hmo]; exact mold_s (by have g := oI_n2 hnx hin hn c217 ▸ hnx; exact fun j g1 g2 => g j g1 (by omega))⟩) (by omega) _ _ hP hD hS _ (lv_sub hl [0, 3, 4, 5, 6, 7] rfl)
                            · -- 229 on
                              exact absurd c229 (by decide)
                          · -- 217 on
                            obtain ⟨j, rfl⟩ := oI_y c217
                            have gj := nxj hnx
                            have hl : lv_has ls 11 [(8, .int (nI (i))), (7, .int (nI (j))), (6, .int (nI (mz))), (5, .int (ld)), (4, .int (la)), (0, .ref (a 0)), (1, .int (nI (rc))), (2, .int (cv))] := hl
                            refine lv_iconst (v := 1) hx hb dX4_payOthers_220 (by decide) ?_
                            refine lv_goto (tgt := 225) hx hb dX4_payOthers_221 (by decide) ?_
                            refine lv_istore (lv' := [(6, .int (1)), (8, .int (nI (i))), (7, .int (nI (j))), (5, .int (ld)), (4, .int (la)), (0, .ref (a 0)), (1, .int (nI (rc))), (2, .int (cv))]) hx hb dX4_payOthers_225 hl (by decide) rfl (fun ls hl => ?_)
                            refine lv_iload hx hb dX4_payOthers_227 (lv_at hl 0 rfl) ?_
                            refine lv_if_eq (tgt := 253) hx hb dX4_payOthers_229 (by decide) (fun c229 => ?_) (fun c229 => ?_)
                            · -- 229 taken
                              exact absurd c229 (by decide)
                            · -- 229 on
                              refine lv_aload_n hx hb dX4_payOthers_232 rfl (lv_at hl 5 rfl) ?_
                              refine lv_iload_n hx hb dX4_payOthers_233 rfl (lv_at hl 6 rfl) ?_
                              refine lv_iload hx hb dX4_payOthers_234 (lv_at hl 2 rfl) ?_
                              refine zcVi (ci := 4) (q0 := 0) (wf := (fun (u : Nat → Nat → Int32) => (wM a cI cZ u))) (List.range 21) ⟨hx, hb, hml, hown, hts⟩ (zwAll 21 (by decide) rfl hP hD hS hA) hK (c_X4_pay l D cI cZ a H.size (Mi) (rc) (j) (by first | assumption | omega) (by first | assumption | omega)) (cwV 2 hts gX4_payOthers_X4_pay rfl rfl rfl (by decide +kernel) ⟨Nat.le_of_ble_eq_true rfl, Nat.le_of_ble_eq_true rfl⟩) rfl rfl (by decide) (fun _ => rfl) rfl hl.1 rfl (Nat.le_of_ble_eq_true rfl) dX4_payOthers_236 ⟨Nat.le_of_ble_eq_true rfl, Nat.le_of_ble_eq_true rfl⟩ (fun r236 u H locs hw hP hD hS => ?_)
                              obtain ⟨rfl, rfl⟩ := hw
                              have hP : va_P D vwCl (wM a cI cZ (mpay (Mi) (rc) (j))) H := hP
                              have hD : va_D A (wM a cI cZ (mpay (Mi) (rc) (j))) := hD
                              refine lv_pop hx hb dX4_payOthers_239 rfl ?_
                              refine lv_iload hx hb dX4_payOthers_240 (lv_at hl 2 rfl) ?_
                              refine lv_istore (lv' := [(4, .int (nI (j))), (6, .int (1)), (8, .int (nI (i))), (7, .int (nI (j))), (5, .int (ld)), (0, .ref (a 0)), (1, .int (nI (rc))), (2, .int (cv))]) hx hb dX4_payOthers_242 hl (by decide) rfl (fun ls hl => ?_)
                              refine lv_aload_n hx hb dX4_payOthers_244 rfl (lv_at hl 5 rfl) ?_
                              refine va_get (D := D) (ci := 4) (v := .ref (a 4)) (C := RX4) (T := TX4) (N := 24) hx hb hts (fun w h => List.mem_cons_of_mem _ (List.mem_append_right _ h)) hown hK hP 0 rfl rfl 6 (by decide) (hts (.fieldLink RX4 19 "CashAllocatorModel" "days" "[I") (by decide +kernel)) (fun _ h9 => h9) rfl dX4_payOthers_245 ?_
                              refine lv_iload hx hb dX4_payOthers_248 (lv_at hl 3 rfl) ?_
                              refine zald hx hb hK hP 4 (n := 40) (f := ((mpay (Mi) (rc) (j)) 6)) rfl (j) rfl (by omega) (by decide) dX4_payOthers_250 ?_
                              refine lv_istore (lv' := [(5, .int ((mpay (Mi) (rc) (j)) 6 (j))), (4, .int (nI (j))), (6, .int (1)), (8, .int (nI (i))), (7, .int (nI (j))), (0, .ref (a 0)), (1, .int (nI (rc))), (2, .int (cv))]) hx hb dX4_payOthers_251 hl (by decide) rfl (fun ls hl => ?_)
                              refine lv_goto (tgt := 72) hx hb dX4_payOthers_253 (by decide) ?_
                              exact ih72 (j + 1) (mpay Mi rc j) (nI j) (mpay Mi rc j 6 j) 1 (by omega) (by rw [mpay_n]; exact hMi) (fun i => by rw [mpay_6]; exact h6 i) (Or.inr ⟨j, rfl, by omega, rfl, rfl⟩) (Or.inl ⟨rfl, by rw [hmo, mold_f c78 gj.1 (by omega) gj.2.2.1 gj.2.2.2, show i0 + (n - i0) - (j + 1) = n - (j + 1) by omega]⟩) (by omega) _ _ hP hD hS _ (lv_sub hl [2, 0, 1, 5, 6, 7] rfl)
                        · -- 98 on
                          rw [nI_leI (by omega) (by omega)] at c98
                          have hln : i < n := by omega
                          refine lv_aload_n hx hb dX4_payOthers_101 rfl (lv_at hl 5 rfl) ?_
                          refine va_get (D := D) (ci := 4) (v := .ref (a 4)) (C := RX4) (T := TX4) (N := 24) hx hb hts (fun w h => List.mem_cons_of_mem _ (List.mem_append_right _ h)) hown hK hP 0 rfl rfl 6 (by decide) (hts (.fieldLink RX4 19 "CashAllocatorModel" "days" "[I") (by decide +kernel)) (fun _ h9 => h9) rfl dX4_payOthers_102 ?_
                          refine lv_iload hx hb dX4_payOthers_105 (lv_at hl 0 rfl) ?_
                          refine zald hx hb hK hP 4 (n := 40) (f := (Mi 6)) rfl (i) rfl (by omega) (by decide) dX4_payOthers_107 ?_
                          refine lv_iload hx hb dX4_payOthers_108 (lv_at hl 3 rfl) ?_
                          refine lv_icmp_gt (tgt := 132) hx hb dX4_payOthers_110 (by decide) (fun c110 => ?_) (fun c110 => ?_)
                          · -- 110 taken
                            have hlt : i0 ≤ i := (later hla hsq hn hln).mp (Or.inl c110)
                            refine lv_iconst (v := 1) hx hb dX4_payOthers_132 (by decide) ?_
                            refine lv_goto (tgt := 137) hx hb dX4_payOthers_133 (by decide) ?_
                            refine lv_istore (lv' := [(9, .int (1)), (8, .int (nI (i))), (7, .int (oI nx)), (6, .int (nI (mz))), (5, .int (ld)), (4, .int (la)), (0, .ref (a 0)), (1, .int (nI (rc))), (2, .int (cv))]) hx hb dX4_payOthers_137 hl (by decide) rfl (fun ls hl => ?_)
                            refine lv_aload_n hx hb dX4_payOthers_139 rfl (lv_at hl 6 rfl) ?_
                            refine va_get (D := D) (ci := 4) (v := .ref (a 1)) (C := RX4) (T := TX4) (N := 24) hx hb hts (fun w h => List.mem_cons_of_mem _ (List.mem_append_right _ h)) hown hK hP 0 rfl rfl 3 (by decide) (hts (.fieldLink RX4 7 "CashAllocatorModel" "owners" "[I") (by decide +kernel)) (fun _ h9 => h9) rfl dX4_payOthers_140 ?_
                            refine lv_iload hx hb dX4_payOthers_143 (lv_at hl 1 rfl) ?_
                            refine zald hx hb hK hP 1 (n := 40) (f := (Mi 3)) rfl (i) rfl (by omega) (by decide) dX4_payOthers_145 ?_
                            refine lv_iload_n hx hb dX4_payOthers_146 rfl (lv_at hl 8 rfl) ?_
                            refine lv_icmp_ne (tgt := 168) hx hb dX4_payOthers_147 (by decide) (fun c147 => ?_) (fun c147 => ?_)
                            · -- 147 taken
                              refine lv_iconst (v := 0) hx hb dX4_payOthers_168 (by decide) ?_
                              refine lv_istore (lv' := [(10, .int (0)), (9, .int (1)), (8, .int (nI (i))), (7, .int (oI nx)), (6, .int (nI (mz))), (5, .int (ld)), (4, .int (la)), (0, .ref (a 0)), (1, .int (nI (rc))), (2, .int (cv))]) hx hb dX4_payOthers_169 hl (by decide) rfl (fun ls hl => ?_)
                              refine lv_iload hx hb dX4_payOthers_171 (lv_at hl 0 rfl) ?_
                              refine lv_if_eq (tgt := 204) hx hb dX4_payOthers_173 (by decide) (fun c173 => ?_) (fun c173 => ?_)
                              · -- 173 taken
                                have hnx2 := nxk (M := Mi) (cv := cv) hnx (fun z => c147 z.2.1)
                                refine lv_iload hx hb dX4_payOthers_204 (lv_at hl 3 rfl) ?_
                                refine lv_istore (lv' := [(7, .int (oI nx)), (10, .int (0)), (9, .int (1)), (8, .int (nI (i))), (6, .int (nI (mz))), (5, .int (ld)), (4, .int (la)), (0, .ref (a 0)), (1, .int (nI (rc))), (2, .int (cv))]) hx hb dX4_payOthers_206 hl (by decide) rfl (fun ls hl => ?_)
                                refine lv_iinc (v := nI (i + 1)) (lv' := [(8, .int (nI (i + 1))), (7, .int (oI nx)), (10, .int (0)), (9, .int (1)), (6, .int (nI (mz))), (5, .int (ld)), (4, .int (la)), (0, .ref (a 0)), (1, .int (nI (rc))), (2, .int (cv))]) hx hb dX4_payOthers_208 hl (k := 3) rfl (nI_1 _) (by decide) rfl (fun ls hl => ?_)
                                refine lv_goto (tgt := 92) hx hb dX4_payOthers_211 (by decide) ?_
                                exact ih92 (i + 1) nx (by omega) hnx2 (by omega) _ _ hP hD hS _ (lv_sub hl [0, 1, 4, 5, 6, 7, 8, 9] rfl)
                              · -- 173 on
                                exact absurd c173 (by decide)
                            · -- 147 on
                              refine lv_aload_n hx hb dX4_payOthers_150 rfl (lv_at hl 6 rfl) ?_
                              refine lv_iload hx hb dX4_payOthers_151 (lv_at hl 1 rfl) ?_
                              refine zcVi (ci := 4) (q0 := 0) (wf := (fun (u : Unit) => (wM a cI cZ Mi))) (List.range 21) ⟨hx, hb, hml, hown, hts⟩ (zwAll 21 (by decide) rfl hP hD hS hA) hK (c_X4_openNow l D cI cZ a H.size (Mi) (i) (by first | assumption | omega)) (cwV 1 hts gX4_payOthers_X4_openNow rfl rfl rfl (by decide +kernel) ⟨Nat.le_of_ble_eq_true rfl, Nat.le_of_ble_eq_true rfl⟩) rfl rfl (by decide) (fun _ => rfl) rfl hl.1 rfl (Nat.le_of_ble_eq_true rfl) dX4_payOthers_153 ⟨Nat.le_of_ble_eq_true rfl, Nat.le_of_ble_eq_true rfl⟩ (fun r153 u H locs hw hP hD hS => ?_)
                              subst hw
                              refine lv_if_le (tgt := 168) hx hb dX4_payOthers_156 (by decide) (fun c156 => ?_) (fun c156 => ?_)
                              · -- 156 taken
                                refine lv_iconst (v := 0) hx hb dX4_payOthers_168 (by decide) ?_
                                refine lv_istore (lv' := [(10, .int (0)), (9, .int (1)), (8, .int (nI (i))), (7, .int (oI nx)), (6, .int (nI (mz))), (5, .int (ld)), (4, .int (la)), (0, .ref (a 0)), (1, .int (nI (rc))), (2, .int (cv))]) hx hb dX4_payOthers_169 hl (by decide) rfl (fun ls hl => ?_)
                                refine lv_iload hx hb dX4_payOthers_171 (lv_at hl 0 rfl) ?_
                                refine lv_if_eq (tgt := 204) hx hb dX4_payOthers_173 (by decide) (fun c173 => ?_) (fun c173 => ?_)
                                · -- 173 taken
                                  have hnx2 := nxk (M := Mi) (cv := cv) hnx (fun z => z.2.2 c156)
                                  refine lv_iload hx hb dX4_payOthers_204 (lv_at hl 3 rfl) ?_
                                  refine lv_istore (lv' := [(7, .int (oI nx)), (10, .int (0)), (9, .int (1)), (8, .int (nI (i))), (6, .int (nI (mz))), (5, .int (ld)), (4, .int (la)), (0, .ref (a 0)), (1, .int (nI (rc))), (2, .int (cv))]) hx hb dX4_payOthers_206 hl (by decide) rfl (fun ls hl => ?_)
                                  refine lv_iinc (v := nI (i + 1)) (lv' := [(8, .int (nI (i + 1))), (7, .int (oI nx)), (10, .int (0)), (9, .int (1)), (6, .int (nI (mz))), (5, .int (ld)), (4, .int (la)), (0, .ref (a 0)), (1, .int (nI (rc))), (2, .int (cv))]) hx hb dX4_payOthers_208 hl (k := 3) rfl (nI_1 _) (by decide) rfl (fun ls hl => ?_)
                                  refine lv_goto (tgt := 92) hx hb dX4_payOthers_211 (by decide) ?_
                                  exact ih92 (i + 1) nx (by omega) hnx2 (by omega) _ _ hP hD hS _ (lv_sub hl [0, 1, 4, 5, 6, 7, 8, 9] rfl)
                                · -- 173 on
                                  exact absurd c173 (by decide)
                              · -- 156 on
                                refine lv_iload hx hb dX4_payOthers_159 (lv_at hl 0 rfl) ?_
                                refine lv_if_eq (tgt := 168) hx hb dX4_payOthers_161 (by decide) (fun c161 => ?_) (fun c161 => ?_)
                                · -- 161 taken
                                  exact absurd c161 (by decide)
                                · -- 161 on
                                  refine lv_iconst (v := 1) hx hb dX4_payOthers_164 (by decide) ?_
                                  refine lv_goto (tgt := 169) hx hb dX4_payOthers_165 (by decide) ?_
                                  refine lv_istore (lv' := [(10, .int (1)), (9, .int (1)), (8, .int (nI (i))), (7, .int (oI nx)), (6, .int (nI (mz))), (5, .int (ld)), (4, .int (la)), (0, .ref (a 0)), (1, .int (nI (rc))), (2, .int (cv))]) hx hb dX4_payOthers_169 hl (by decide) rfl (fun ls hl => ?_)
                                  refine lv_iload hx hb dX4_payOthers_171 (lv_at hl 0 rfl) ?_
                                  refine lv_if_eq (tgt := 204) hx hb dX4_payOthers_173 (by decide) (fun c173 => ?_) (fun c173 => ?_)
                                  · -- 173 taken
                                    exact absurd c173 (by decide)
                                  · -- 173 on
                                    refine lv_iload hx hb dX4_payOthers_176 (lv_at hl 3 rfl) ?_
                                    refine lv_iconst (v := (-1)) hx hb dX4_payOthers_178 (by decide) ?_
                                    refine lv_icmp_eq (tgt := 199) hx hb dX4_payOthers_179 (by decide) (fun c179 => ?_) (fun c179 => ?_)
                                    · -- 179 taken
                                      have hnx2 : NX Mi cv i0 (i + 1) (some i) := nxt (oI_n2 hnx hin hn c179 ▸ hnx) hlt ⟨c147, c156⟩
                                      refine lv_iload hx hb dX4_payOthers_199 (lv_at hl 2 rfl) ?_
                                      refine lv_goto (tgt := 206) hx hb dX4_payOthers_201 (by decide) ?_
                                      refine lv_istore (lv' := [(7, .int (nI (i))), (10, .int (1)), (9, .int (1)), (8, .int (nI (i))), (6, .int (nI (mz))), (5, .int (ld)), (4, .int (la)), (0, .ref (a 0)), (1, .int (nI (rc))), (2, .int (cv))]) hx hb dX4_payOthers_206 hl (by decide) rfl (fun ls hl => ?_)
                                      refine lv_iinc (v := nI (i + 1)) (lv' := [(8, .int (nI (i + 1))), (7, .int (nI (i))), (10, .int (1)), (9, .int (1)), (6, .int (nI (mz))), (5, .int (ld)), (4, .int (la)), (0, .ref (a 0)), (1, .int (nI (rc))), (2, .int (cv))]) hx hb dX4_payOthers_208 hl (k := 3) rfl (nI_1 _) (by decide) rfl (fun ls hl => ?_)
                                      refine lv_goto (tgt := 92) hx hb dX4_payOthers_211 (by decide) ?_
                                      exact ih92 (i + 1) (some i) (by omega) hnx2 (by omega) _ _ hP hD hS _ (lv_sub hl [0, 1, 4, 5, 6, 7, 8, 9] rfl)
                                    · -- 179 on
                                      obtain ⟨j, rfl⟩ := oI_y c179
                                      have gj := nxj hnx
                                      have hl : lv_has ls 11 [(10, .int (1)), (9, .int (1)), (8, .int (nI (i))), (7, .int (nI (j))), (6, .int (nI (mz))), (5, .int (ld)), (4, .int (la)), (0, .ref (a 0)), (1, .int (nI (rc))), (2, .int (cv))] := hl
                                      refine lv_aload_n hx hb dX4_payOthers_182 rfl (lv_at hl 7 rfl) ?_
                                      refine va_get (D := D) (ci := 4) (v := .ref (a 4)) (C := RX4) (T := TX4) (N := 24) hx hb hts (fun w h => List.mem_cons_of_mem _ (List.mem_append_right _ h)) hown hK hP 0 rfl rfl 6 (by decide) (hts (.fieldLink RX4 19 "CashAllocatorModel" "days" "[I") (by decide +kernel)) (fun _ h9 => h9) rfl dX4_payOthers_183 ?_
                                      refine lv_iload hx hb dX4_payOthers_186 (lv_at hl 2 rfl) ?_
                                      refine zald hx hb hK hP 4 (n := 40) (f := (Mi 6)) rfl (i) rfl (by omega) (by decide) dX4_payOthers_188 ?_
                                      refine lv_aload_n hx hb dX4_payOthers_189 rfl (lv_at hl 7 rfl) ?_
                                      refine va_get (D := D) (ci := 4) (v := .ref (a 4)) (C := RX4) (T := TX4) (N := 24) hx hb hts (fun w h => List.mem_cons_of_mem _ (List.mem_append_right _ h)) hown hK hP 0 rfl rfl 6 (by decide) (hts (.fieldLink RX4 19 "CashAllocatorModel" "days" "[I") (by decide +kernel)) (fun _ h9 => h9) rfl dX4_payOthers_190 ?_
                                      refine lv_iload hx hb dX4_payOthers_193 (lv_at hl 3 rfl) ?_
                                      refine zald hx hb hK hP 4 (n := 40) (f := (Mi 6)) rfl (j) rfl (by omega) (by decide) dX4_payOthers_195 ?_
                                      refine lv_icmp_ge (tgt := 204) hx hb dX4_payOthers_196 (by decide) (fun c196 => ?_) (fun c196 => ?_)
                                      · -- 196 taken
                                        have hnx2 : NX Mi cv i0 (i + 1) (some j) := nxs hnx
                                        refine lv_iload hx hb dX4_payOthers_204 (lv_at hl 3 rfl) ?_
                                        refine lv_istore (lv' := [(7, .int (nI (j))), (10, .int (1)), (9, .int (1)), (8, .int (nI (i))), (6, .int (nI (mz))), (5, .int (ld)), (4, .int (la)), (0, .ref (a 0)), (1, .int (nI (rc))), (2, .int (cv))]) hx hb dX4_payOthers_206 hl (by decide) rfl (fun ls hl => ?_)
                                        refine lv_iinc (v := nI (i + 1)) (lv' := [(8, .int (nI (i + 1))), (7, .int (nI (j))), (10, .int (1)), (9, .int (1)), (6, .int (nI (mz))), (5, .int (ld)), (4, .int (la)), (0, .ref (a 0)), (1, .int (nI (rc))), (2, .int (cv))]) hx hb dX4_payOthers_208 hl (k := 3) rfl (nI_1 _) (by decide) rfl (fun ls hl => ?_)
                                        refine lv_goto (tgt := 92) hx hb dX4_payOthers_211 (by decide) ?_
                                        exact ih92 (i + 1) (some j) (by omega) hnx2 (by omega) _ _ hP hD hS _ (lv_sub hl [0, 1, 4, 5, 6, 7, 8, 9] rfl)
                                      · -- 196 on
                                        exact absurd (lt_of_nge32 c196) (not_lt_of_ge32 (hsp j i (by obtain ⟨g1, g2, g3⟩ := nxj hnx; omega) hln))
                          · -- 110 on
                            refine lv_aload_n hx hb dX4_payOthers_113 rfl (lv_at hl 5 rfl) ?_
                            refine va_get (D := D) (ci := 4) (v := .ref (a 4)) (C := RX4) (T := TX4) (N := 24) hx hb hts (fun w h => List.mem_cons_of_mem _ (List.mem_append_right _ h)) hown hK hP 0 rfl rfl 6 (by decide) (hts (.fieldLink RX4 19 "CashAllocatorModel" "days" "[I") (by decide +kernel)) (fun _ h9 => h9) rfl dX4_payOthers_114 ?_
                            refine lv_iload hx hb dX4_payOthers_117 (lv_at hl 0 rfl) ?_
                            refine zald hx hb hK hP 4 (n := 40) (f := (Mi 6)) rfl (i) rfl (by omega) (by decide) dX4_payOthers_119 ?_
                            refine lv_iload hx hb dX4_payOthers_120 (lv_at hl 3 rfl) ?_
                            refine lv_icmp_ne (tgt := 136) hx hb dX4_payOthers_122 (by decide) (fun c122 => ?_) (fun c122 => ?_)
                            · -- 122 taken
                              have hlt : ¬ i0 ≤ i := fun z => ((later hla hsq hn hln).mpr z).elim c110 (fun w => c122 w.1)
                              refine lv_iconst (v := 0) hx hb dX4_payOthers_136 (by decide) ?_
                              refine lv_istore (lv' := [(9, .int (0)), (8, .int (nI (i))), (7, .int (oI nx)), (6, .int (nI (mz))), (5, .int (ld)), (4, .int (la)), (0, .ref (a 0)), (1, .int (nI (rc))), (2, .int (cv))]) hx hb dX4_payOthers_137 hl (by decide) rfl (fun ls hl => ?_)
                              refine lv_aload_n hx hb dX4_payOthers_139 rfl (lv_at hl 6 rfl) ?_
                              refine va_get (D := D) (ci := 4) (v := .ref (a 1)) (C := RX4) (T := TX4) (N := 24) hx hb hts (fun w h => List.mem_cons_of_mem _ (List.mem_append_right _ h)) hown hK hP 0 rfl rfl 3 (by decide) (hts (.fieldLink RX4 7 "CashAllocatorModel" "owners" "[I") (by decide +kernel)) (fun _ h9 => h9) rfl dX4_payOthers_140 ?_
                              refine lv_iload hx hb dX4_payOthers_143 (lv_at hl 1 rfl) ?_
                              refine zald hx hb hK hP 1 (n := 40) (f := (Mi 3)) rfl (i) rfl (by omega) (by decide) dX4_payOthers_145 ?_
                              refine lv_iload_n hx hb dX4_payOthers_146 rfl (lv_at hl 8 rfl) ?_
                              refine lv_icmp_ne (tgt := 168) hx hb dX4_payOthers_147 (by decide) (fun c147 => ?_) (fun c147 => ?_)
                              · -- 147 taken
                                refine lv_iconst (v := 0) hx hb dX4_payOthers_168 (by decide) ?_
                                refine lv_istore (lv' := [(10, .int (0)), (9, .int (0)), (8, .int (nI (i))), (7, .int (oI nx)), (6, .int (nI (mz))), (5, .int (ld)), (4, .int (la)), (0, .ref (a 0)), (1, .int (nI (rc))), (2, .int (cv))]) hx hb dX4_payOthers_169 hl (by decide) rfl (fun ls hl => ?_)
                                refine lv_iload hx hb dX4_payOthers_171 (lv_at hl 0 rfl) ?_
                                refine lv_if_eq (tgt := 204) hx hb dX4_payOthers_173 (by decide) (fun c173 => ?_) (fun c173 => ?_)
                                · -- 173 taken
                                  have hnx2 := nxk (M := Mi) (cv := cv) hnx (fun z => c147 z.2.1)
                                  refine lv_iload hx hb dX4_payOthers_204 (lv_at hl 3 rfl) ?_
                                  refine lv_istore (lv' := [(7, .int (oI nx)), (10, .int (0)), (9, .int (0)), (8, .int (nI (i))), (6, .int (nI (mz))), (5, .int (ld)), (4, .int (la)), (0, .ref (a 0)), (1, .int (nI (rc))), (2, .int (cv))]) hx hb dX4_payOthers_206 hl (by decide) rfl (fun ls hl => ?_)
                                  refine lv_iinc (v := nI (i + 1)) (lv' := [(8, .int (nI (i + 1))), (7, .int (oI nx)), (10, .int (0)), (9, .int (0)), (6, .int (nI (mz))), (5, .int (ld)), (4, .int (la)), (0, .ref (a 0)), (1, .int (nI (rc))), (2, .int (cv))]) hx hb dX4_payOthers_208 hl (k := 3) rfl (nI_1 _) (by decide) rfl (fun ls hl => ?_)
                                  refine lv_goto (tgt := 92) hx hb dX4_payOthers_211 (by decide) ?_
                                  exact ih92 (i + 1) nx (by omega) hnx2 (by omega) _ _ hP hD hS _ (lv_sub hl [0, 1, 4, 5, 6, 7, 8, 9] rfl)
                                · -- 173 on
                                  exact absurd c173 (by decide)
                              · -- 147 on
                                refine lv_aload_n hx hb dX4_payOthers_150 rfl (lv_at hl 6 rfl) ?_
                                refine lv_iload hx hb dX4_payOthers_151 (lv_at hl 1 rfl) ?_
                                refine zcVi (ci := 4) (q0 := 0) (wf := (fun (u : Unit) => (wM a cI cZ Mi))) (List.range 21) ⟨hx, hb, hml, hown, hts⟩ (zwAll 21 (by decide) rfl hP hD hS hA) hK (c_X4_openNow l D cI cZ a H.size (Mi) (i) (by first | assumption | omega)) (cwV 1 hts gX4_payOthers_X4_openNow rfl rfl rfl (by decide +kernel) ⟨Nat.le_of_ble_eq_true rfl, Nat.le_of_ble_eq_true rfl⟩) rfl rfl (by decide) (fun _ => rfl) rfl hl.1 rfl (Nat.le_of_ble_eq_true rfl) dX4_payOthers_153 ⟨Nat.le_of_ble_eq_true rfl, Nat.le_of_ble_eq_true rfl⟩ (fun r153 u H locs hw hP hD hS => ?_)
                                subst hw
                                refine lv_if_le (tgt := 168) hx hb dX4_payOthers_156 (by decide) (fun c156 => ?_) (fun c156 => ?_)
                                · -- 156 taken
                                  refine lv_iconst (v := 0) hx hb dX4_payOthers_168 (by decide) ?_
                                  refine lv_istore (lv' := [(10, .int (0)), (9, .int (0)), (8, .int (nI (i))), (7, .int (oI nx)), (6, .int (nI (mz))), (5, .int (ld)), (4, .int (la)), (0, .ref (a 0)), (1, .int (nI (rc))), (2, .int (cv))]) hx hb dX4_payOthers_169 hl (by decide) rfl (fun ls hl => ?_)
                                  refine lv_iload hx hb dX4_payOthers_171 (lv_at hl 0 rfl) ?_
                                  refine lv_if_eq (tgt := 204) hx hb dX4_payOthers_173 (by decide) (fun c173 => ?_) (fun c173 => ?_)
                                  · -- 173 taken
                                    have hnx2 := nxk (M := Mi) (cv := cv) hnx (fun z => z.2.2 c156)
                                    refine lv_iload hx hb dX4_payOthers_204 (lv_at hl 3 rfl) ?_
                                    refine lv_istore (lv' := [(7, .int (oI nx)), (10, .int (0)), (9, .int (0)), (8, .int (nI (i))), (6, .int (nI (mz))), (5, .int (ld)), (4, .int (la)), (0, .ref (a 0)), (1, .int (nI (rc))), (2, .int (cv))]) hx hb dX4_payOthers_206 hl (by decide) rfl (fun ls hl => ?_)
                                    refine lv_iinc (v := nI (i + 1)) (lv' := [(8, .int (nI (i + 1))), (7, .int (oI nx)), (10, .int (0)), (9, .int (0)), (6, .int (nI (mz))), (5, .int (ld)), (4, .int (la)), (0, .ref (a 0)), (1, .int (nI (rc))), (2, .int (cv))]) hx hb dX4_payOthers_208 hl (k := 3) rfl (nI_1 _) (by decide) rfl (fun ls hl => ?_)
                                    refine lv_goto (tgt := 92) hx hb dX4_payOthers_211 (by decide) ?_
                                    exact ih92 (i + 1) nx (by omega) hnx2 (by omega) _ _ hP hD hS _ (lv_sub hl [0, 1, 4, 5, 6, 7, 8, 9] rfl)
                                  · -- 173 on
                                    exact absurd c173 (by decide)
                                · -- 156 on
                                  refine lv_iload hx hb dX4_payOthers_159 (lv_at hl 0 rfl) ?_
                                  refine lv_if_eq (tgt := 168) hx hb dX4_payOthers_161 (by decide) (fun c161 => ?_) (fun c161 => ?_)
                                  · -- 161 taken
                                    refine lv_iconst (v := 0) hx hb dX4_payOthers_168 (by decide) ?_
                                    refine lv_istore (lv' := [(10, .int (0)), (9, .int (0)), (8, .int (nI (i))), (7, .int (oI nx)), (6, .int (nI (mz))), (5, .int (ld)), (4, .int (la)), (0, .ref (a 0)), (1, .int (nI (rc))), (2, .int (cv))]) hx hb dX4_payOthers_169 hl (by decide) rfl (fun ls hl => ?_)
                                    refine lv_iload hx hb dX4_payOthers_171 (lv_at hl 0 rfl) ?_
                                    refine lv_if_eq (tgt := 204) hx hb dX4_payOthers_173 (by decide) (fun c173 => ?_) (fun c173 => ?_)
                                    · -- 173 taken
                                      have hnx2 := nxk (M := Mi) (cv := cv) hnx (fun z => hlt z.1)
                                      refine lv_iload hx hb dX4_payOthers_204 (lv_at hl 3 rfl) ?_
                                      refine lv_istore (lv' := [(7, .int (oI nx)), (10, .int (0)), (9, .int (0)), (8, .int (nI (i))), (6, .int (nI (mz))), (5, .int (ld)), (4, .int (la)), (0, .ref (a 0)), (1, .int (nI (rc))), (2, .int (cv))]) hx hb dX4_payOthers_206 hl (by decide) rfl (fun ls hl => ?_)
                                      refine lv_iinc (v := nI (i + 1)) (lv' := [(8, .int (nI (i + 1))), (7, .int (oI nx)), (10, .int (0)), (9, .int (0)), (6, .int (nI (mz))), (5, .int (ld)), (4, .int (la)), (0, .ref (a 0)), (1, .int (nI (rc))), (2, .int (cv))]) hx hb dX4_payOthers_208 hl (k := 3) rfl (nI_1 _) (by decide) rfl (fun ls hl => ?_)
                                      refine lv_goto (tgt := 92) hx hb dX4_payOthers_211 (by decide) ?_
                                      exact ih92 (i + 1) nx (by omega) hnx2 (by omega) _ _ hP hD hS _ (lv_sub hl [0, 1, 4, 5, 6, 7, 8, 9] rfl)
                                    · -- 173 on
                                      exact absurd c173 (by decide)
                                  · -- 161 on
                                    exact absurd c161 (by decide)
                            · -- 122 on
                              refine lv_iload hx hb dX4_payOthers_125 (lv_at hl 0 rfl) ?_
                              refine lv_iload hx hb dX4_payOthers_127 (lv_at hl 4 rfl) ?_
                              refine lv_icmp_le (tgt := 136) hx hb dX4_payOthers_129 (by decide) (fun c129 => ?_) (fun c129 => ?_)
                              · -- 129 taken
                                have hlt : ¬ i0 ≤ i := fun z => ((later hla hsq hn hln).mpr z).elim c110 (fun w => absurd w.2 (not_lt_of_ge32 c129))
                                refine lv_iconst (v := 0) hx hb dX4_payOthers_136 (by decide) ?_
                                refine lv_istore (lv' := [(9, .int (0)), (8, .int (nI (i))), (7, .int (oI nx)), (6, .int (nI (mz))), (5, .int (ld)), (4, .int (la)), (0, .ref (a 0)), (1, .int (nI (rc))), (2, .int (cv))]) hx hb dX4_payOthers_137 hl (by decide) rfl (fun ls hl => ?_)
                                refine lv_aload_n hx hb dX4_payOthers_139 rfl (lv_at hl 6 rfl) ?_
                                refine va_get (D := D) (ci := 4) (v := .ref (a 1)) (C := RX4) (T := TX4) (N := 24) hx hb hts (fun w h => List.mem_cons_of_mem _ (List.mem_append_right _ h)) hown hK hP 0 rfl rfl 3 (by decide) (hts (.fieldLink RX4 7 "CashAllocatorModel" "owners" "[I") (by decide +kernel)) (fun _ h9 => h9) rfl dX4_payOthers_140 ?_
                                refine lv_iload hx hb dX4_payOthers_143 (lv_at hl 1 rfl) ?_
                                refine zald hx hb hK hP 1 (n := 40) (f := (Mi 3)) rfl (i) rfl (by omega) (by decide) dX4_payOthers_145 ?_
                                refine lv_iload_n hx hb dX4_payOthers_146 rfl (lv_at hl 8 rfl) ?_
                                refine lv_icmp_ne (tgt := 168) hx hb dX4_payOthers_147 (by decide) (fun c147 => ?_) (fun c147 => ?_)
                                · -- 147 taken
                                  refine lv_iconst (v := 0) hx hb dX4_payOthers_168 (by decide) ?_
                                  refine lv_istore (lv' := [(10, .int (0)), (9, .int (0)), (8, .int (nI (i))), (7, .int (oI nx)), (6, .int (nI (mz))), (5, .int (ld)), (4, .int (la)), (0, .ref (a 0)), (1, .int (nI (rc))), (2, .int (cv))]) hx hb dX4_payOthers_169 hl (by decide) rfl (fun ls hl => ?_)
                                  refine lv_iload hx hb dX4_payOthers_171 (lv_at hl 0 rfl) ?_
                                  refine lv_if_eq (tgt := 204) hx hb dX4_payOthers_173 (by decide) (fun c173 => ?_) (fun c173 => ?_)
                                  · -- 173 taken
                                    have hnx2 := nxk (M := Mi) (cv := cv) hnx (fun z => c147 z.2.1)
                                    refine lv_iload hx hb dX4_payOthers_204 (lv_at hl 3 rfl) ?_
                                    refine lv_istore (lv' := [(7, .int (oI nx)), (10, .int (0)), (9, .int (0)), (8, .int (nI (i))), (6, .int (nI (mz))), (5, .int (ld)), (4, .int (la)), (0, .ref (a 0)), (1, .int (nI (rc))), (2, .int (cv))]) hx hb dX4_payOthers_206 hl (by decide) rfl (fun ls hl => ?_)
                                    refine lv_iinc (v := nI (i + 1)) (lv' := [(8, .int (nI (i + 1))), (7, .int (oI nx)), (10, .int (0)), (9, .int (0)), (6, .int (nI (mz))), (5, .int (ld)), (4, .int (la)), (0, .ref (a 0)), (1, .int (nI (rc))), (2, .int (cv))]) hx hb dX4_payOthers_208 hl (k := 3) rfl (nI_1 _) (by decide) rfl (fun ls hl => ?_)
                                    refine lv_goto (tgt := 92) hx hb dX4_payOthers_211 (by decide) ?_
                                    exact ih92 (i + 1) nx (by omega) hnx2 (by omega) _ _ hP hD hS _ (lv_sub hl [0, 1, 4, 5, 6, 7, 8, 9] rfl)
                                  · -- 173 on
                                    exact absurd c173 (by decide)
                                · -- 147 on
                                  refine lv_aload_n hx hb dX4_payOthers_150 rfl (lv_at hl 6 rfl) ?_
                                  refine lv_iload hx hb dX4_payOthers_151 (lv_at hl 1 rfl) ?_
                                  refine zcVi (ci := 4) (q0 := 0) (wf := (fun (u : Unit) => (wM a cI cZ Mi))) (List.range 21) ⟨hx, hb, hml, hown, hts⟩ (zwAll 21 (by decide) rfl hP hD hS hA) hK (c_X4_openNow l D cI cZ a H.size (Mi) (i) (by first | assumption | omega)) (cwV 1 hts gX4_payOthers_X4_openNow rfl rfl rfl (by decide +kernel) ⟨Nat.le_of_ble_eq_true rfl, Nat.le_of_ble_eq_true rfl⟩) rfl rfl (by decide) (fun _ => rfl) rfl hl.1 rfl (Nat.le_of_ble_eq_true rfl) dX4_payOthers_153 ⟨Nat.le_of_ble_eq_true rfl, Nat.le_of_ble_eq_true rfl⟩ (fun r153 u H locs hw hP hD hS => ?_)
                                  subst hw
                                  refine lv_if_le (tgt := 168) hx hb dX4_payOthers_156 (by decide) (fun c156 => ?_) (fun c156 => ?_)
                                  · -- 156 taken
                                    refine lv_iconst (v := 0) hx hb dX4_payOthers_168 (by decide) ?_
                                    refine lv_istore (lv' := [(10, .int (0)), (9, .int (0)), (8, .int (nI (i))), (7, .int (oI nx)), (6, .int (nI (mz))), (5, .int (ld)), (4, .int (la)), (0, .ref (a 0)), (1, .int (nI (rc))), (2, .int (cv))]) hx hb dX4_payOthers_169 hl (by decide) rfl (fun ls hl => ?_)
                                    refine lv_iload hx hb dX4_payOthers_171 (lv_at hl 0 rfl) ?_
                                    refine lv_if_eq (tgt := 204) hx hb dX4_payOthers_173 (by decide) (fun c173 => ?_) (fun c173 => ?_)
                                    · -- 173 taken
                                      have hnx2 := nxk (M := Mi) (cv := cv) hnx (fun z => z.2.2 c156)
                                      refine lv_iload hx hb dX4_payOthers_204 (lv_at hl 3 rfl) ?_
                                      refine lv_istore (lv' := [(7, .int (oI nx)), (10, .int (0)), (9, .int (0)), (8, .int (nI (i))), (6, .int (nI (mz))), (5, .int (ld)), (4, .int (la)), (0, .ref (a 0)), (1, .int (nI (rc))), (2, .int (cv))]) hx hb dX4_payOthers_206 hl (by decide) rfl (fun ls hl => ?_)
                                      refine lv_iinc (v := nI (i + 1)) (lv' := [(8, .int (nI (i + 1))), (7, .int (oI nx)), (10, .int (0)), (9, .int (0)), (6, .int (nI (mz))), (5, .int (ld)), (4, .int (la)), (0, .ref (a 0)), (1, .int (nI (rc))), (2, .int (cv))]) hx hb dX4_payOthers_208 hl (k := 3) rfl (nI_1 _) (by decide) rfl (fun ls hl => ?_)
                                      refine lv_goto (tgt := 92) hx hb dX4_payOthers_211 (by decide) ?_
                                      exact ih92 (i + 1) nx (by omega) hnx2 (by omega) _ _ hP hD hS _ (lv_sub hl [0, 1, 4, 5, 6, 7, 8, 9] rfl)
                                    · -- 173 on
                                      exact absurd c173 (by decide)
                                  · -- 156 on
                                    refine lv_iload hx hb dX4_payOthers_159 (lv_at hl 0 rfl) ?_
                                    refine lv_if_eq (tgt := 168) hx hb dX4_payOthers_161 (by decide) (fun c161 => ?_) (fun c161 => ?_)
                                    · -- 161 taken
                                      refine lv_iconst (v := 0) hx hb dX4_payOthers_168 (by decide) ?_
                                      refine lv_istore (lv' := [(10, .int (0)), (9, .int (0)), (8, .int (nI (i))), (7, .int (oI nx)), (6, .int (nI (mz))), (5, .int (ld)), (4, .int (la)), (0, .ref (a 0)), (1, .int (nI (rc))), (2, .int (cv))]) hx hb dX4_payOthers_169 hl (by decide) rfl (fun ls hl => ?_)
                                      refine lv_iload hx hb dX4_payOthers_171 (lv_at hl 0 rfl) ?_
                                      refine lv_if_eq (tgt := 204) hx hb dX4_payOthers_173 (by decide) (fun c173 => ?_) (fun c173 => ?_)
                                      · -- 173 taken
                                        have hnx2 := nxk (M := Mi) (cv := cv) hnx (fun z => hlt z.1)
                                        refine lv_iload hx hb dX4_payOthers_204 (lv_at hl 3 rfl) ?_
                                        refine lv_istore (lv' := [(7, .int (oI nx)), (10, .int (0)), (9, .int (0)), (8, .int (nI (i))), (6, .int (nI (mz))), (5, .int (ld)), (4, .int (la)), (0, .ref (a 0)), (1, .int (nI (rc))), (2, .int (cv))]) hx hb dX4_payOthers_206 hl (by decide) rfl (fun ls hl => ?_)
                                        refine lv_iinc (v := nI (i + 1)) (lv' := [(8, .int (nI (i + 1))), (7, .int (oI nx)), (10, .int (0)), (9, .int (0)), (6, .int (nI (mz))), (5, .int (ld)), (4, .int (la)), (0, .ref (a 0)), (1, .int (nI (rc))), (2, .int (cv))]) hx hb dX4_payOthers_208 hl (k := 3) rfl (nI_1 _) (by decide) rfl (fun ls hl => ?_)
                                        refine lv_goto (tgt := 92) hx hb dX4_payOthers_211 (by decide) ?_
                                        exact ih92 (i + 1) nx (by omega) hnx2 (by omega) _ _ hP hD hS _ (lv_sub hl [0, 1, 4, 5, 6, 7, 8, 9] rfl)
                                      · -- 173 on
                                        exact absurd c173 (by decide)
                                    · -- 161 on
                                      exact absurd c161 (by decide)
                              · -- 129 on
                                have hlt : i0 ≤ i := (later hla hsq hn hln).mp (Or.inr ⟨c122, lt_of_nge32 c129⟩)
                                refine lv_iconst (v := 1) hx hb dX4_payOthers_132 (by decide) ?_
                                refine lv_goto (tgt := 137) hx hb dX4_payOthers_133 (by decide) ?_
                                refine lv_istore (lv' := [(9, .int (1)), (8, .int (nI (i))), (7, .int (oI nx)), (6, .int (nI (mz))), (5, .int (ld)), (4, .int (la)), (0, .ref (a 0)), (1, .int (nI (rc))), (2, .int (cv))]) hx hb dX4_payOthers_137 hl (by decide) rfl (fun ls hl => ?_)
                                refine lv_aload_n hx hb dX4_payOthers_139 rfl (lv_at hl 6 rfl) ?_
                                refine va_get (D := D) (ci := 4) (v := .ref (a 1)) (C := RX4) (T := TX4) (N := 24) hx hb hts (fun w h => List.mem_cons_of_mem _ (List.mem_append_right _ h)) hown hK hP 0 rfl rfl 3 (by decide) (hts (.fieldLink RX4 7 "CashAllocatorModel" "owners" "[I") (by decide +kernel)) (fun _ h9 => h9) rfl dX4_payOthers_140 ?_
                                refine lv_iload hx hb dX4_payOthers_143 (lv_at hl 1 rfl) ?_
                                refine zald hx hb hK hP 1 (n := 40) (f := (Mi 3)) rfl (i) rfl (by omega) (by decide) dX4_payOthers_145 ?_
                                refine lv_iload_n hx hb dX4_payOthers_146 rfl (lv_at hl 8 rfl) ?_
                                refine lv_icmp_ne (tgt := 168) hx hb dX4_payOthers_147 (by decide) (fun c147 => ?_) (fun c147 => ?_)
                                · -- 147 taken
                                  refine lv_iconst (v := 0) hx hb dX4_payOthers_168 (by decide) ?_
                                  refine lv_istore (lv' := [(10, .int (0)), (9, .int (1)), (8, .int (nI (i))), (7, .int (oI nx)), (6, .int (nI (mz))), (5, .int (ld)), (4, .int (la)), (0, .ref (a 0)), (1, .int (nI (rc))), (2, .int (cv))]) hx hb dX4_payOthers_169 hl (by decide) rfl (fun ls hl => ?_)
                                  refine lv_iload hx hb dX4_payOthers_171 (lv_at hl 0 rfl) ?_
                                  refine lv_if_eq (tgt := 204) hx hb dX4_payOthers_173 (by decide) (fun c173 => ?_) (fun c173 => ?_)
                                  · -- 173 taken
                                    have hnx2 := nxk (M := Mi) (cv := cv) hnx (fun z => c147 z.2.1)
                                    refine lv_iload hx hb dX4_payOthers_204 (lv_at hl 3 rfl) ?_
                                    refine lv_istore (lv' := [(7, .int (oI nx)), (10, .int (0)), (9, .int (1)), (8, .int (nI (i))), (6, .int (nI (mz))), (5, .int (ld)), (4, .int (la)), (0, .ref (a 0)), (1, .int (nI (rc))), (2, .int (cv))]) hx hb dX4_payOthers_206 hl (by decide) rfl (fun ls hl => ?_)
                                    refine lv_iinc (v := nI (i + 1)) (lv' := [(8, .int (nI (i + 1))), (7, .int (oI nx)), (10, .int (0)), (9, .int (1)), (6, .int (nI (mz))), (5, .int (ld)), (4, .int (la)), (0, .ref (a 0)), (1, .int (nI (rc))), (2, .int (cv))]) hx hb dX4_payOthers_208 hl (k := 3) rfl (nI_1 _) (by decide) rfl (fun ls hl => ?_)
                                    refine lv_goto (tgt := 92) hx hb dX4_payOthers_211 (by decide) ?_
                                    exact ih92 (i + 1) nx (by omega) hnx2 (by omega) _ _ hP hD hS _ (lv_sub hl [0, 1, 4, 5, 6, 7, 8, 9] rfl)
                                  · -- 173 on
                                    exact absurd c173 (by decide)
                                · -- 147 on
                                  refine lv_aload_n hx hb dX4_payOthers_150 rfl (lv_at hl 6 rfl) ?_
                                  refine lv_iload hx hb dX4_payOthers_151 (lv_at hl 1 rfl) ?_
                                  refine zcVi (ci := 4) (q0 := 0) (wf := (fun (u : Unit) => (wM a cI cZ Mi))) (List.range 21) ⟨hx, hb, hml, hown, hts⟩ (zwAll 21 (by decide) rfl hP hD hS hA) hK (c_X4_openNow l D cI cZ a H.size (Mi) (i) (by first | assumption | omega)) (cwV 1 hts gX4_payOthers_X4_openNow rfl rfl rfl (by decide +kernel) ⟨Nat.le_of_ble_eq_true rfl, Nat.le_of_ble_eq_true rfl⟩) rfl rfl (by decide) (fun _ => rfl) rfl hl.1 rfl (Nat.le_of_ble_eq_true rfl) dX4_payOthers_153 ⟨Nat.le_of_ble_eq_true rfl, Nat.le_of_ble_eq_true rfl⟩ (fun r153 u H locs hw hP hD hS => ?_)
                                  subst hw
                                  refine lv_if_le (tgt := 168) hx hb dX4_payOthers_156 (by decide) (fun c156 => ?_) (fun c156 => ?_)
                                  · -- 156 taken
                                    refine lv_iconst (v := 0) hx hb dX4_payOthers_168 (by decide) ?_
                                    refine lv_istore (lv' := [(10, .int (0)), (9, .int (1)), (8, .int (nI (i))), (7, .int (oI nx)), (6, .int (nI (mz))), (5, .int (ld)), (4, .int (la)), (0, .ref (a 0)), (1, .int (nI (rc))), (2, .int (cv))]) hx hb dX4_payOthers_169 hl (by decide) rfl (fun ls hl => ?_)
                                    refine lv_iload hx hb dX4_payOthers_171 (lv_at hl 0 rfl) ?_
                                    refine lv_if_eq (tgt := 204) hx hb dX4_payOthers_173 (by decide) (fun c173 => ?_) (fun c173 => ?_)
                                    · -- 173 taken
                                      have hnx2 := nxk (M := Mi) (cv := cv) hnx (fun z => z.2.2 c156)
                                      refine lv_iload hx hb dX4_payOthers_204 (lv_at hl 3 rfl) ?_
                                      refine lv_istore (lv' := [(7, .int (oI nx)), (10, .int (0)), (9, .int (1)), (8, .int (nI (i))), (6, .int (nI (mz))), (5, .int (ld)), (4, .int (la)), (0, .ref (a 0)), (1, .int (nI (rc))), (2, .int (cv))]) hx hb dX4_payOthers_206 hl (by decide) rfl (fun ls hl => ?_)
                                      refine lv_iinc (v := nI (i + 1)) (lv' := [(8, .int (nI (i + 1))), (7, .int (oI nx)), (10, .int (0)), (9, .int (1)), (6, .int (nI (mz))), (5, .int (ld)), (4, .int (la)), (0, .ref (a 0)), (1, .int (nI (rc))), (2, .int (cv))]) hx hb dX4_payOthers_208 hl (k := 3) rfl (nI_1 _) (by decide) rfl (fun ls hl => ?_)
                                      refine lv_goto (tgt := 92) hx hb dX4_payOthers_211 (by decide) ?_
                                      exact ih92 (i + 1) nx (by omega) hnx2 (by omega) _ _ hP hD hS _ (lv_sub hl [0, 1, 4, 5, 6, 7, 8, 9] rfl)
                                    · -- 173 on
                                      exact absurd c173 (by decide)
                                  · -- 156 on
                                    refine lv_iload hx hb dX4_payOthers_159 (lv_at hl 0 rfl) ?_
                                    refine lv_if_eq (tgt := 168) hx hb dX4_payOthers_161 (by decide) (fun c161 => ?_) (fun c161 => ?_)
                                    · -- 161 taken
                                      exact absurd c161 (by decide)
                                    · -- 161 on
                                      refine lv_iconst (v := 1) hx hb dX4_payOthers_164 (by decide) ?_
                                      refine lv_goto (tgt := 169) hx hb dX4_payOthers_165 (by decide) ?_
                                      refine lv_istore (lv' := [(10, .int (1)), (9, .int (1)), (8, .int (nI (i))), (7, .int (oI nx)), (6, .int (nI (mz))), (5, .int (ld)), (4, .int (la)), (0, .ref (a 0)), (1, .int (nI (rc))), (2, .int (cv))]) hx hb dX4_payOthers_169 hl (by decide) rfl (fun ls hl => ?_)
                                      refine lv_iload hx hb dX4_payOthers_171 (lv_at hl 0 rfl) ?_
                                      refine lv_if_eq (tgt := 204) hx hb dX4_payOthers_173 (by decide) (fun c173 => ?_) (fun c173 => ?_)
                                      · -- 173 taken
                                        exact absurd c173 (by decide)
                                      · -- 173 on
                                        refine lv_iload hx hb dX4_payOthers_176 (lv_at hl 3 rfl) ?_
                                        refine lv_iconst (v := (-1)) hx hb dX4_payOthers_178 (by decide) ?_
                                        refine lv_icmp_eq (tgt := 199) hx hb dX4_payOthers_179 (by decide) (fun c179 => ?_) (fun c179 => ?_)
                                        · -- 179 taken
                                          have hnx2 : NX Mi cv i0 (i + 1) (some i) := nxt (oI_n2 hnx hin hn c179 ▸ hnx) hlt ⟨c147, c156⟩
                                          refine lv_iload hx hb dX4_payOthers_199 (lv_at hl 2 rfl) ?_
                                          refine lv_goto (tgt := 206) hx hb dX4_payOthers_201 (by decide) ?_
                                          refine lv_istore (lv' := [(7, .int (nI (i))), (10, .int (1)), (9, .int (1)), (8, .int (nI (i))), (6, .int (nI (mz))), (5, .int (ld)), (4, .int (la)), (0, .ref (a 0)), (1, .int (nI (rc))), (2, .int (cv))]) hx hb dX4_payOthers_206 hl (by decide) rfl (fun ls hl => ?_)
                                          refine lv_iinc (v := nI (i + 1)) (lv' := [(8, .int (nI (i + 1))), (7, .int (nI (i))), (10, .int (1)), (9, .int (1)), (6, .int (nI (mz))), (5, .int (ld)), (4, .int (la)), (0, .ref (a 0)), (1, .int (nI (rc))), (2, .int (cv))]) hx hb dX4_payOthers_208 hl (k := 3) rfl (nI_1 _) (by decide) rfl (fun ls hl => ?_)
                                          refine lv_goto (tgt := 92) hx hb dX4_payOthers_211 (by decide) ?_
                                          exact ih92 (i + 1) (some i) (by omega) hnx2 (by omega) _ _ hP hD hS _ (lv_sub hl [0, 1, 4, 5, 6, 7, 8, 9] rfl)
                                        · -- 179 on
                                          obtain ⟨j, rfl⟩ := oI_y c179
                                          have gj := nxj hnx
                                          have hl : lv_has ls 11 [(10, .int (1)), (9, .int (1)), (8, .int (nI (i))), (7, .int (nI (j))), (6, .int (nI (mz))), (5, .int (ld)), (4, .int (la)), (0, .ref (a 0)), (1, .int (nI (rc))), (2, .int (cv))] := hl
                                          refine lv_aload_n hx hb dX4_payOthers_182 rfl (lv_at hl 7 rfl) ?_
                                          refine va_get (D := D) (ci := 4) (v := .ref (a 4)) (C := RX4) (T := TX4) (N := 24) hx hb hts (fun w h => List.mem_cons_of_mem _ (List.mem_append_right _ h)) hown hK hP 0 rfl rfl 6 (by decide) (hts (.fieldLink RX4 19 "CashAllocatorModel" "days" "[I") (by decide +kernel)) (fun _ h9 => h9) rfl dX4_payOthers_183 ?_
                                          refine lv_iload hx hb dX4_payOthers_186 (lv_at hl 2 rfl) ?_
                                          refine zald hx hb hK hP 4 (n := 40) (f := (Mi 6)) rfl (i) rfl (by omega) (by decide) dX4_payOthers_188 ?_
                                          refine lv_aload_n hx hb dX4_payOthers_189 rfl (lv_at hl 7 rfl) ?_
                                          refine va_get (D := D) (ci := 4) (v := .ref (a 4)) (C := RX4) (T := TX4) (N := 24) hx hb hts (fun w h => List.mem_cons_of_mem _ (List.mem_append_right _ h)) hown hK hP 0 rfl rfl 6 (by decide) (hts (.fieldLink RX4 19 "CashAllocatorModel" "days" "[I") (by decide +kernel)) (fun _ h9 => h9) rfl dX4_payOthers_190 ?_
                                          refine lv_iload hx hb dX4_payOthers_193 (lv_at hl 3 rfl) ?_
                                          refine zald hx hb hK hP 4 (n := 40) (f := (Mi 6)) rfl (j) rfl (by omega) (by decide) dX4_payOthers_195 ?_
                                          refine lv_icmp_ge (tgt := 204) hx hb dX4_payOthers_196 (by decide) (fun c196 => ?_) (fun c196 => ?_)
                                          · -- 196 taken
                                            have hnx2 : NX Mi cv i0 (i + 1) (some j) := nxs hnx
                                            refine lv_iload hx hb dX4_payOthers_204 (lv_at hl 3 rfl) ?_
                                            refine lv_istore (lv' := [(7, .int (nI (j))), (10, .int (1)), (9, .int (1)), (8, .int (nI (i))), (6, .int (nI (mz))), (5, .int (ld)), (4, .int (la)), (0, .ref (a 0)), (1, .int (nI (rc))), (2, .int (cv))]) hx hb dX4_payOthers_206 hl (by decide) rfl (fun ls hl => ?_)
                                            refine lv_iinc (v := nI (i + 1)) (lv' := [(8, .int (nI (i + 1))), (7, .int (nI (j))), (10, .int (1)), (9, .int (1)), (6, .int (nI (mz))), (5, .int (ld)), (4, .int (la)), (0, .ref (a 0)), (1, .int (nI (rc))), (2, .int (cv))]) hx hb dX4_payOthers_208 hl (k := 3) rfl (nI_1 _) (by decide) rfl (fun ls hl => ?_)
                                            refine lv_goto (tgt := 92) hx hb dX4_payOthers_211 (by decide) ?_
                                            exact ih92 (i + 1) (some j) (by omega) hnx2 (by omega) _ _ hP hD hS _ (lv_sub hl [0, 1, 4, 5, 6, 7, 8, 9] rfl)
                                          · -- 196 on
                                            exact absurd (lt_of_nge32 c196) (not_lt_of_ge32 (hsp j i (by obtain ⟨g1, g2, g3⟩ := nxj hnx; omega) hln))
                    exact loop92 _ (0) (none) (Nat.zero_le _) (nx0) (Nat.lt_succ_self _) _ _ hP hD hS _ (lv_sub hl [0, 1, 2, 3, 4, 5, 6, 7] rfl)
            exact loop72 _ (0) (Mi) (-1) (-1) (1) (Nat.zero_le _) (hMi) (h6) (Or.inl ⟨rfl, rfl, rfl⟩) (Or.inl ⟨rfl, hst2⟩) (Nat.lt_succ_self _) _ _ hP hD hS _ (lv_sub hl [0, 1, 2, 4, 5, 6] rfl)
          · -- 41 on
            rw [nI_leI (by omega) (by omega)] at c41
            have c41 : k < mny := by omega
            obtain ⟨x, hx40, hxe⟩ := hch k c41
            refine lv_aload_n hx hb dX4_payOthers_44 rfl (lv_at hl 2 rfl) ?_
            refine lv_iload_n hx hb dX4_payOthers_45 rfl (lv_at hl 3 rfl) ?_
            refine lv_aload_n hx hb dX4_payOthers_46 rfl (lv_at hl 2 rfl) ?_
            refine va_get (D := D) (ci := 4) (v := .ref (a 20)) (C := RX4) (T := TX4) (N := 24) hx hb hts (fun w h => List.mem_cons_of_mem _ (List.mem_append_right _ h)) hown hK hP 0 rfl rfl 23 (by decide) (hts (.fieldLink RX4 68 "CashAllocatorModel" "chosen" "[I") (by decide +kernel)) (fun _ h9 => h9) rfl dX4_payOthers_47 ?_
            refine lv_iload hx hb dX4_payOthers_50 (lv_at hl 0 rfl) ?_
            refine zald hx hb hK hP 20 (n := 3) (f := (Mi 23)) rfl (k) rfl (by omega) (by decide) dX4_payOthers_52 ?_
            rw [hxe]
            refine zcVi (ci := 4) (q0 := 0) (wf := (fun (u : Nat → Nat → Int32) => (wM a cI cZ u))) (List.range 21) ⟨hx, hb, hml, hown, hts⟩ (zwAll 21 (by decide) rfl hP hD hS hA) hK (c_X4_pay l D cI cZ a H.size (Mi) (rc) (x) (by first | assumption | omega) (by first | assumption | omega)) (cwV 2 hts gX4_payOthers_X4_pay rfl rfl rfl (by decide +kernel) ⟨Nat.le_of_ble_eq_true rfl, Nat.le_of_ble_eq_true rfl⟩) rfl rfl (by decide) (fun _ => rfl) rfl hl.1 rfl (Nat.le_of_ble_eq_true rfl) dX4_payOthers_53 ⟨Nat.le_of_ble_eq_true rfl, Nat.le_of_ble_eq_true rfl⟩ (fun r53 u H locs hw hP hD hS => ?_)
            obtain ⟨rfl, rfl⟩ := hw
            have hP : va_P D vwCl (wM a cI cZ (mpay (Mi) (rc) (x))) H := hP
            have hD : va_D A (wM a cI cZ (mpay (Mi) (rc) (x))) := hD
            refine lv_pop hx hb dX4_payOthers_56 rfl ?_
            refine lv_iinc (v := nI (k + 1)) (lv' := [(4, .int (nI (k + 1))), (3, .int (nI (mny))), (0, .ref (a 0)), (1, .int (nI (rc))), (2, .int (cv))]) hx hb dX4_payOthers_57 hl (k := 0) rfl (nI_1 _) (by decide) rfl (fun ls hl => ?_)
            refine lv_goto (tgt := 38) hx hb dX4_payOthers_60 (by decide) ?_
            exact ih38 (k + 1) (mpay Mi rc x) (by omega) (by rw [mpay_n]; exact hMi) (fun i => by rw [mpay_6]; exact h6 i) (fun j hj => by rw [mpay_23]; exact hch j hj) (by rw [hg, show mny - k = (mny - (k + 1)) + 1 by omega, mex, hxe, nI_clamp (by omega)]) (by omega) _ _ hP hD hS _ (lv_sub hl [0, 1, 2, 3, 4] rfl)
      exact loop38 _ (0) ((mcS M (mcs M cv (M 18 rc).toInt64 n))) (Nat.zero_le _) (hM1) (h61) (hch1) (hst) (Nat.lt_succ_self _) _ _ hP hD hS _ (lv_sub hl [0, 1, 3, 4, 2] rfl)
    · -- 18 on
      exact W.vret hx hb hr (fun t ht hW => ⟨⟨M, rfl, (by unfold moth; rw [if_pos (Or.inr c18)]), by rw [ht]; exact hP, va_K.moved hW.alike hK, hD⟩, hS.F ht⟩) hS.2.2 dX4_payOthers_21
