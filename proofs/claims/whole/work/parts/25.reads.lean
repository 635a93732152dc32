section SIMR
variable {tt n q : Nat} {B R M : Nat → Nat → Int32} {td : Int32}
theorem mbs_id {rc i : Nat} (h21 : M 21 (40 * rc + i) = 0) (h11 : ¬ M 11 i = nI rc) (h13 : ¬ M 13 i = nI rc) : mbs M rc i = M := by
  funext k j
  rw [mbs_at, if_neg h11, if_neg h11, if_neg h13, if_neg h13, h21, Int32.sub_zero]
  grind
/-- the bills of the receipt are undone, one after another -/
theorem sim_bl {rc : Nat} (hrc : rc < q) : ∀ {k i uu : Nat} {B R M : Nat → Nat → Int32}, i + k = n → RB tt B R td M n q rc i → R 5 rc = 0 →
    (bncL rc k i uu B R).1 = (mbL rc k i uu M).1 ∧ RB tt (bncL rc k i uu B R).2.1 (bncL rc k i uu B R).2.2 td (mbL rc k i uu M).2 n q rc n ∧ (∀ r, (bncL rc k i uu B R).2.2 3 r = R 3 r ∧ (bncL rc k i uu B R).2.2 4 r = R 4 r ∧ (bncL rc k i uu B R).2.2 5 r = R 5 r)
  | 0, i, uu, B, R, M, hi, h, h5 => by
    have e : i = n := by omega
    subst e
    exact ⟨rfl, h, fun r => ⟨rfl, rfl, rfl⟩⟩
  | k + 1, i, uu, B, R, M, hi, h, h5 => by
    have hn := h.1.2.2.1
    have hq := h.2.2.1.2.2.1
    obtain ⟨p1, p2, p3, p4, p5, p6, p7, p8, p9⟩ := h.2.2.2.1 rc i (by omega) (by omega)
    have e22 := p5 (Or.inr (Nat.le_refl _)) h5
    rw [bncL, mbL, ← e22]
    by_cases z : R 7 (40 * rc + i) = 0
    · rw [if_pos z, if_pos z, mbs_id (by rw [← p1, p3 z]) (fun w => by have := p7 (by omega) w; rw [z] at this; exact absurd this (by decide)) (fun w => by have := p8 (by omega) w; rw [z] at this; exact absurd this (by decide))]
      refine sim_bl hrc (by omega) ⟨h.1, h.2.1, h.2.2.1, fun r b hr hb => ?_, h.2.2.2.2⟩ h5
      obtain ⟨g1, g2, g3, g4, g5, g6, g7, g8, g9⟩ := h.2.2.2.1 r b hr hb
      refine ⟨g1, g2, g3, g4, fun w => g5 (by omega), g6, g7, g8, fun w1 w2 => ?_⟩
      by_cases y : b = i
      · rw [w1, y]; exact z
      · exact g9 w1 (by omega)
    · rw [if_neg z, if_neg z]
      have r3 : ∀ r, drpP R rc i 3 r = R 3 r ∧ drpP R rc i 4 r = R 4 r ∧ drpP R rc i 5 r = R 5 r := fun r => by simp [drpP, pt_at]
      have IH := sim_bl hrc (k := k) (i := i + 1) (uu := uu + 1) (by omega) (sim_u h hrc (by omega) h5 z) (by rw [(r3 rc).2.2]; exact h5)
      exact ⟨IH.1, IH.2.1, fun r => ⟨(IH.2.2 r).1.trans (r3 r).1, (IH.2.2 r).2.1.trans (r3 r).2.1, (IH.2.2 r).2.2.trans (r3 r).2.2⟩⟩
theorem ls_z {f : Nat → Int32} : ∀ {n : Nat}, (∀ k, k < n → f k = 0) → l_sum f n = 0
  | 0, _ => rfl
  | n + 1, h => by
    rw [l_sum, ls_z (fun k hk => h k (by omega)), h n (by omega)]
    decide
theorem sim_mk {rc : Nat} (h : RB tt B R td M n q rc n) (hrc : rc < q) (hq : Rq4 R) (h5 : R 5 rc = 0) (h4 : R 4 rc ≤ 0) : Rl2 tt B (mkB R rc) td (pt (pt M 18 rc 0) 20 rc 1) n q := by
  obtain ⟨hc, hd, hr, hp, hs⟩ := h
  have hq30 := hr.2.2.1
  have e4 : R 4 rc = 0 := eqI (by
    have a1 := leI.mp h4
    have a2 := (hq rc (by omega)).1
    rw [i0] at *
    omega)
  have e2 : R 2 rc = 0 := by
    rw [hs.2.2 rc (by omega)]
    refine ls_z fun b hb => ?_
    obtain ⟨g1, g2, g3, g4, g5, g6, g7, g8, g9⟩ := hp rc b (by omega) hb
    rcases Nat.lt_or_ge b n with w | w
    · exact g3 (g9 rfl w)
    · exact g3 (g4 (Or.inr w)).1
  have r : ∀ k j, mkB R rc k j = if k = 5 ∧ j = rc then 1 else if k = 3 ∧ j = rc then 0 else R k j := fun k j => by simp only [mkB, pt_at]
  have m : ∀ k j, pt (pt M 18 rc 0) 20 rc 1 k j = if k = 20 ∧ j = rc then 1 else if k = 18 ∧ j = rc then 0 else M k j := fun k j => by simp only [pt_at]
  generalize pt (pt M 18 rc 0) 20 rc 1 = M' at m ⊢
  refine ⟨⟨?_, ?_, ⟨by simpa [r] using hr.1, by simpa [m] using hr.2.1, hq30, ?_⟩, ?_, ?_⟩, ?_⟩
  · have : RC tt B td M' n ↔ RC tt B td M n := by unfold RC dsc; simp [m]
    exact this.mpr hc
  · have : RD B M' n ↔ RD B M n := by unfold RD; simp [m]
    exact this.mpr hd
  · intro r' hr3
    obtain ⟨⟨g1, g2, g3, g4, g5⟩, g6, g7, g8, g9, g10⟩ := hr.2.2.2 r' hr3
    by_cases z : r' = rc
    · subst z
      simp only [r, m]
      simp
      exact ⟨⟨g1, g2, g4⟩, ⟨e2, e4⟩, by omega⟩
    · simp only [r, m]
      simp [z]
      exact ⟨⟨g1, g2, g3, g4, g5⟩, g6, g7, g8 z, g9, g10⟩
  · intro r' b hr3 hb
    obtain ⟨g1, g2, g3, g4, g5, g6, g7, g8, g9⟩ := hp r' b hr3 hb
    have s21 : M' 21 (40 * r' + b) = M 21 (40 * r' + b) := by simp [m]
    have s22 : M' 22 (40 * r' + b) = M 22 (40 * r' + b) := by simp [m]
    have s11 : M' 11 b = M 11 b := by simp [m]
    have s13 : M' 13 b = M 13 b := by simp [m]
    have s6 : mkB R rc 6 (40 * r' + b) = R 6 (40 * r' + b) := by simp [r]
    have s7 : mkB R rc 7 (40 * r' + b) = R 7 (40 * r' + b) := by simp [r]
    have s5 : mkB R rc 5 r' = if r' = rc then 1 else R 5 r' := by simp [r]
    rw [s21, s22, s11, s13, s6, s7, s5]
    by_cases z : r' = rc
    · rw [if_pos z]
      refine ⟨g1, g2, g3, g4, fun w => absurd w (by decide), fun _ => ?_, g7, g8⟩
      rcases Nat.lt_or_ge b n with w | w
      · exact g9 z w
      · exact (g4 (Or.inr w)).1
    · rw [if_neg z]
      exact ⟨g1, g2, g3, g4, g5 (Or.inl z), g6, g7, g8⟩
  · have : RS B (mkB R rc) ↔ RS B R := by unfold RS; simp [r]
    exact this.mpr hs
  · intro r' hr3
    have g := hq r' hr3
    by_cases z : r' = rc
    · subst z
      simp [r, e4]
    · simpa [r, z] using g
/-- a receipt bounces -/
theorem sim_bnc {rc : Nat} (h : Rl2 tt B R td M n q) (hrc : rc < q) (h5 : R 5 rc = 0) (h4 : R 4 rc ≤ 0) :
    (bncL rc n 0 0 B R).1 = (mbL rc n 0 0 (pt M 0 0 0)).1 ∧ Rl2 tt (bncL rc n 0 0 B R).2.1 (mkB (bncL rc n 0 0 B R).2.2 rc) td (mbo M rc n) n q := by
  obtain ⟨⟨hc, hd, hr, hp, hs⟩, hq⟩ := rl_0 (x := 0) h
  have b0 : RB tt B R td (pt M 0 0 0) n q rc 0 := ⟨hc, hd, ⟨hr.1, hr.2.1, hr.2.2.1, fun r hr3 => by
    obtain ⟨g1, g6, g7, g8, g9, g10⟩ := hr.2.2.2 r hr3
    exact ⟨g1, g6, g7, fun _ => g8, g9, g10⟩⟩, fun r b hr3 hb => by
    obtain ⟨g1, g2, g3, g4, g5, g6, g7, g8⟩ := hp r b hr3 hb
    exact ⟨g1, g2, g3, g4, fun _ => g5, g6, g7, g8, fun _ w => absurd w (Nat.not_lt_zero _)⟩, hs⟩
  obtain ⟨L1, L2, L3⟩ := sim_bl hrc (k := n) (i := 0) (uu := 0) (by omega) b0 h5
  refine ⟨L1, ?_⟩
  unfold mbo
  exact sim_mk L2 hrc (fun r hr3 => by rw [(L3 r).1, (L3 r).2.1]; exact hq r hr3) (by rw [(L3 rc).2.2]; exact h5) (by rw [(L3 rc).2.1]; exact h4)
-- what is read is the same
theorem rd_oof {cu : Int32} (h : Rel tt B R td M n q) : ∀ {k : Nat}, k ≤ n → oof B cu k = moo M cu k
  | 0, _ => rfl
  | k + 1, hk => by
    have o := (opn_I h.1 h.2.1 (i := k) (by omega)).2.1
    have b0 := (h.1.2.2.2.2.2.2.1 k (by omega)).1
    rw [oof, moo, rd_oof h (by omega), o, b0, Int32.add_zero]
theorem rd_bsm (h : Rel tt B R td M n q) : ∀ {k : Nat}, k ≤ 30 → bsm R k = mbsm M k
  | 0, _ => rfl
  | k + 1, hk => by
    have g := (h.2.2.1.2.2.2 k (by omega)).1
    rw [bsm, mbsm, rd_bsm h (by omega), g.2.1, g.2.2.2.2]
    split <;> simp
theorem rd_16 (h : Rel tt B R td M n q) : l_sum (R 1) q = l_sum (M 16) q ∧ l_sum (R 3) q = l_sum (M 18) q ∧ l_sum (R 4) q = l_sum (M 19) q := by
  have hq := h.2.2.1.2.2.1
  have g := fun k (hk : k < q) => (h.2.2.1.2.2.2 k (by omega)).1
  exact ⟨ls_c fun k hk => (g k hk).2.1, ls_c fun k hk => (g k hk).2.2.1, ls_c fun k hk => (g k hk).2.2.2.1⟩
theorem rd_apl (h : Rel tt B R td M n q) : ∀ {k : Nat}, k ≤ 30 → l_sum (R 2) k = l_sum (M 16) k - l_sum (M 18) k - l_sum (M 19) k - mbsm M k
  | 0, _ => by show (0 : Int32) = 0 - 0 - 0 - 0; decide
  | k + 1, hk => by
    obtain ⟨⟨g1, g2, g3, g4, g5⟩, g6, g7, g8, g9, g10⟩ := h.2.2.1.2.2.2 k (by omega)
    rw [l_sum, l_sum, l_sum, l_sum, mbsm, rd_apl h (by omega), ← g2, ← g3, ← g4, ← g5]
    by_cases z : R 5 k = 0
    · rw [if_pos z, g8 z]
      grind
    · obtain ⟨y1, y2, y3⟩ := g9 z
      rw [if_neg z, y1, y2, y3]
      grind
theorem rd_pl (h : Rel tt B R td M n q) {rc b : Nat} (hrc : rc < q) (hb : b < n) : R 6 (40 * rc + b) = M 21 (40 * rc + b) := (h.2.2.2.1 rc b (by have := h.2.2.1.2.2.1; omega) (by have := h.1.2.2.1; omega)).1
theorem rd_hb (h : Rel tt B R td M n q) {rc : Nat} (hrc : rc < q) : b2 (¬ R 5 rc = 0) = b2 (¬ M 20 rc = 0) := by rw [(rr_at h.2.2.1 hrc).2.2.2.2]
theorem rd_b (h : Rel tt B R td M n q) {i : Nat} (hi : i < n) : B 5 i = M 9 i ∧ B 6 i = M 10 i ∧ B 8 i = M 12 i ∧ B 10 i = M 14 i := by
  have g := (h.2.1 i (by have := h.1.2.2.1; omega)).1
  exact ⟨g.1, g.2.1, g.2.2.1, g.2.2.2.1⟩
theorem rd_set {E : Nat → Nat → Int32} {cu sm : Int32} {pl : Nat} (h : Rel tt B R td M n q) (h3 : 1 ≤ sm) (h4 : pl < 3) : cesE B E cu sm td n 2 pl = mstf M cu sm.toInt64 n pl := by
  have h0 := rel_0 (x := 0) h
  obtain ⟨g, ho⟩ := ofL_s (B := B) (td := td) (cu := cu) (k := n) (i := 0) (m := 0) (E := clrE E) (g := fun _ => 0) ⟨fun p hp => absurd hp (Nat.not_lt_zero _), fun p p' _ hp => absurd hp (Nat.not_lt_zero _), fun j hj => absurd hj (Nat.not_lt_zero _), by simp [clrE, pt_at], by simp [clrE, pt_at], by simp [clrE, pt_at]⟩
  rw [Nat.zero_add] at ho
  exact ch_e (sm := sm) (ov_of h0 ho) (by have := leI.mp h3; rw [i1] at this; omega) (fun p hp => (ho.1 p hp).2.2.1) ho.2.2.2 h4
theorem rl_set {cu : Int32} {sm : Int64} (h : Rl2 tt B R td M n q) : Rl2 tt B R td (mcS (pt M 0 0 0) (mcs (pt M 0 0 0) cu sm n)) n q := ⟨rel_M (fun k i _ h2 => mcS_o h2) (rl_0 h).1, h.2⟩
-- the refusals are the same
theorem rk_ix {vx : Int32} (h : Rel tt B R td M n q) (z : ¬ (vx < 0 ∨ ¬ vx < R 8 0)) : ∃ r, r < q ∧ vx = nI r ∧ vx.toNatClampNeg = r := by
  have hq := h.2.2.1.2.2.1
  rw [h.2.2.1.1] at z
  obtain ⟨r, h1, h2⟩ := ix_of (n := q) (by omega) (fun w => z (Or.inl w)) (Classical.not_not.mp fun w => z (Or.inr w))
  exact ⟨r, h1, h2, by rw [h2]; exact nI_clamp (by omega)⟩
theorem rk_8 (h : Rel tt B R td M n q) : mR M 8 0 = R 8 0 := h.2.2.1.2.1.trans h.2.2.1.1.symm
theorem rk_apl {vx : Int32} (h : Rel tt B R td M n q) : aplK (mR M) vx = aplK R vx := by
  unfold aplK
  rw [rk_8 h]
  by_cases z : vx < 0 ∨ ¬ vx < R 8 0
  · rw [if_pos z, if_pos z]
  · obtain ⟨r, hr, e1, e2⟩ := rk_ix h z
    obtain ⟨g1, g2, g3, g4, g5⟩ := rr_at h.2.2.1 hr
    rw [if_neg z, if_neg z, e2, show mR M 5 r = R 5 r from g5.symm, show mR M 0 r = R 0 r from g1.symm]
theorem rk_pbk {vx : Int32} (h : Rel tt B R td M n q) : pbkK (mR M) vx = pbkK R vx := by
  unfold pbkK
  rw [rk_8 h]
  by_cases z : vx < 0 ∨ ¬ vx < R 8 0
  · rw [if_pos z, if_pos z]
  · obtain ⟨r, hr, e1, e2⟩ := rk_ix h z
    obtain ⟨g1, g2, g3, g4, g5⟩ := rr_at h.2.2.1 hr
    rw [if_neg z, if_neg z, e2, show mR M 5 r = R 5 r from g5.symm, show mR M 3 r = R 3 r from g3.symm]
theorem rk_bnc {vx : Int32} (h : Rel tt B R td M n q) : bncK (mR M) vx = bncK R vx := by
  unfold bncK
  rw [rk_8 h]
  by_cases z : vx < 0 ∨ ¬ vx < R 8 0
  · rw [if_pos z, if_pos z]
  · obtain ⟨r, hr, e1, e2⟩ := rk_ix h z
    obtain ⟨g1, g2, g3, g4, g5⟩ := rr_at h.2.2.1 hr
    rw [if_neg z, if_neg z, e2, show mR M 5 r = R 5 r from g5.symm, show mR M 4 r = R 4 r from g4.symm]
theorem rk_asg {vx cu : Int32} (h : Rel tt B R td M n q) : asgK (mR M) vx cu = asgK R vx cu := by
  unfold asgK
  rw [rk_8 h]
  by_cases z : (vx < 0 ∨ ¬ vx < R 8 0) ∨ (cu < 0 ∨ ¬ cu < 8)
  · rw [if_pos z, if_pos z]
  · obtain ⟨r, hr, e1, e2⟩ := rk_ix h (fun w => z (Or.inl w))
    obtain ⟨g1, g2, g3, g4, g5⟩ := rr_at h.2.2.1 hr
    rw [if_neg z, if_neg z, e2, show mR M 5 r = R 5 r from g5.symm, show mR M 0 r = R 0 r from g1.symm]
theorem rk_stl {vx : Int32} (h : Rel tt B R td M n q) : stlK (mB M) vx = stlK B vx := by
  have hn := h.1.2.2.1
  unfold stlK
  rw [show mB M 11 0 = B 11 0 from h.1.2.1.trans h.1.1.symm]
  by_cases z : vx < 0 ∨ ¬ vx < B 11 0
  · rw [if_pos z, if_pos z]
  · rw [if_neg z, if_neg z]
    rw [h.1.1] at z
    obtain ⟨r, h1, h2⟩ := ix_of (n := n) (by omega) (fun w => z (Or.inl w)) (Classical.not_not.mp fun w => z (Or.inr w))
    have e2 : vx.toNatClampNeg = r := by rw [h2]; exact nI_clamp (by omega)
    rw [e2, show mB M 8 r = B 8 r from (rd_b h h1).2.2.1.symm]
/-- at the beginning -/
theorem rl_init : Rl2 0 z0 z0 0 z0 0 0 := by
  refine ⟨⟨⟨rfl, rfl, by decide, rfl, by decide, by decide, fun i hi => absurd hi (Nat.not_lt_zero _), fun i j _ hj => absurd hj (Nat.not_lt_zero _), fun i hi => absurd hi (Nat.not_lt_zero _)⟩, fun i hi => ?_, ⟨rfl, rfl, by decide, fun r hr => ?_⟩, fun r b hr hb => ?_, ?_⟩, fun r hr => ⟨by show 0 ≤ (0 : Int32).toInt; decide, Or.inl rfl⟩⟩
  · exact ⟨⟨rfl, rfl, rfl, rfl, rfl⟩, ⟨i0 ▸ Int.le_refl _, i0 ▸ Int.le_refl _, i0 ▸ Int.le_refl _, i0 ▸ Int.le_refl _⟩, fun w => absurd w (Nat.not_lt_zero _), fun _ => ⟨i0, i0, i0, i0⟩, fun w => absurd w (Nat.not_lt_zero _)⟩
  · exact ⟨⟨rfl, rfl, rfl, rfl, rfl⟩, i0 ▸ Int.le_refl _, Or.inl rfl, fun _ => by show (0 : Int32) = 0 + 0 + 0; decide, fun w => absurd rfl w, fun _ => ⟨rfl, rfl, rfl⟩⟩
  · exact ⟨rfl, i0 ▸ Int.le_refl _, fun _ => rfl, fun _ => ⟨rfl, rfl⟩, fun _ => rfl, fun _ => rfl, fun w => absurd w (Nat.not_lt_zero _), fun w => absurd w (Nat.not_lt_zero _)⟩
  · exact ⟨fun _ => Or.inl rfl, fun b hb => by show (0 : Int32).toInt = sI (fun _ => (0 : Int32).toInt) 30; decide, fun r hr => by show (0 : Int32) = l_sum (fun _ => 0) 40; decide⟩
end SIMR
