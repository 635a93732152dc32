section SIMP
variable {tt n q : Nat} {B R M : Nat → Nat → Int32} {td : Int32}
theorem mpy2_cm {M : Nat → Nat → Int32} {rc b : Nat} {sm di v : Int32} : mpy2 (pt (pt M 10 b di) 11 b v) rc b sm = pt (pt (mpy2 M rc b sm) 10 b di) 11 b v := by
  unfold mpy2
  show pt (pt (pt (pt (pt (pt M 10 b di) 11 b v) 9 b (M 9 b + sm)) 18 rc (M 18 rc - sm)) 21 (40 * rc + b) (M 21 (40 * rc + b) + sm)) 22 (40 * rc + b) 1 = _
  rw [pt_cm (k := 11) (k' := 9) (by decide), pt_cm (k := 10) (k' := 9) (by decide), pt_cm (k := 11) (k' := 18) (by decide), pt_cm (k := 10) (k' := 18) (by decide), pt_cm (k := 11) (k' := 21) (by decide), pt_cm (k := 10) (k' := 21) (by decide), pt_cm (k := 11) (k' := 22) (by decide), pt_cm (k := 10) (k' := 22) (by decide)]
theorem rr_at {r : Nat} (hr : RR R M q) (h : r < q) : R 0 r = M 17 r ∧ R 1 r = M 16 r ∧ R 3 r = M 18 r ∧ R 4 r = M 19 r ∧ R 5 r = M 20 r := (hr.2.2.2 r (by have := hr.2.2.1; omega)).1
theorem sim_pay {rc b : Nat} (h : Rel tt B R td M n q) (hrc : rc < q) (hb : b < n) (h5 : R 5 rc = 0) :
    Rel tt (payB B R rc b td) (payR B R rc b td) td (mpay M rc b) n q ∧ payR B R rc b td 7 (40 * rc + b) = 1 ∧ (R 3 rc < dueN B b td ↔ M 18 rc < mdue M b) := by
  have hq : q ≤ 30 := h.2.2.1.2.2.1
  have e3 : R 3 rc = M 18 rc := (rr_at h.2.2.1 hrc).2.2.1
  have r0 : 0 ≤ (R 3 rc).toInt := (h.2.2.1.2.2.2 rc (by omega)).2.1
  obtain ⟨u1, u2, u3, u4, u5⟩ := due_I h.1 h.2.1 hb
  obtain ⟨o1, o2, o3, o4⟩ := opn_I h.1 h.2.1 hb
  have hiff : R 3 rc < dueN B b td ↔ M 18 rc < mdue M b := by rw [← u1, ← e3]
  have key : Rel tt (payB B R rc b td) (payR B R rc b td) td (mpay M rc b) n q ∧ payR B R rc b td 7 (40 * rc + b) = 1 := by
    by_cases z : R 3 rc < dueN B b td
    · have z' := ltI.mp z
      have e1 : payB B R rc b td = pt B 5 b (B 5 b + R 3 rc) := if_pos z
      have e2 : payR B R rc b td = addP R rc b (R 3 rc) := by unfold payR payS; rw [if_pos z]
      have e4 : mpay M rc b = mpy2 M rc b (R 3 rc) := by unfold mpay; rw [if_pos (hiff.mp z), e3]
      rw [e1, e2, e4]
      exact sim_P h hrc hb h5 r0 (Int.le_refl _) (by omega)
    · have z' : (dueN B b td).toInt ≤ (R 3 rc).toInt := by
        have := mt ltI.mpr z
        omega
      have e2 : payR B R rc b td = addP R rc b (dueN B b td) := by unfold payR payS; rw [if_neg z]
      have P := sim_P (sm := dueN B b td) h hrc hb h5 u2 z' u3
      by_cases w : opn B b = B 1 b ∧ ¬ B 4 b < td
      · obtain ⟨v1, v2⟩ := u4 w
        have w1 : (opn B b).toInt = (B 1 b).toInt := congrArg Int32.toInt w.1
        obtain ⟨-, ⟨d6, d7, d8, d9⟩, -⟩ := h.2.1 b (by have := h.1.2.2.1; omega)
        have t0 : (B 6 b).toInt = 0 := by omega
        have e1 : payB B R rc b td = pt (pt (pt B 5 b (B 5 b + dueN B b td)) 6 b (B 3 b)) 7 b (nI rc) := by
          unfold payB
          rw [if_neg z, show tkD B b (nI rc) td = pt (pt B 6 b (B 3 b)) 7 b (nI rc) from if_pos w]
          show pt (pt (pt B 6 b (B 3 b)) 7 b (nI rc)) 5 b (B 5 b + dueN B b td) = _
          rw [pt_cm (k := 7) (k' := 5) (by decide), pt_cm (k := 6) (k' := 5) (by decide)]
        rw [e1, e2]
        by_cases y : B 3 b ≤ 0
        · have y0 : B 3 b = 0 := eqI (by
            have := leI.mp y
            have := (h.1.2.2.2.2.2.2.1 b hb).2.2.2.2.2.2.2.1
            rw [i0] at *
            omega)
          have e4 : mpay M rc b = mpy2 M rc b (dueN B b td) := by
            unfold mpay mtk
            rw [if_neg (mt hiff.mpr z), if_neg (fun g => g (by rw [v1]; exact y)), ← u1]
          rw [e4, y0]
          exact ⟨sim_T0 P.1 hb t0, P.2⟩
        · have y1 : 0 < (B 3 b).toInt := by
            have := mt leI.mpr y
            rw [i0] at this
            omega
          have e4 : mpay M rc b = pt (pt (mpy2 M rc b (dueN B b td)) 10 b (B 3 b)) 11 b (nI rc) := by
            unfold mpay mtk
            rw [if_neg (mt hiff.mpr z), if_pos (by rw [v1]; exact y), ← u1, v1, mpy2_cm]
          rw [e4]
          refine ⟨sim_T P.1 hb (by omega) t0 y1 ?_ P.2, P.2⟩
          have o5 := (opn_I P.1.1 P.1.2.1 hb).1
          have s5 : pt B 5 b (B 5 b + dueN B b td) 5 b = B 5 b + dueN B b td := pt_s
          have s6 : (B 5 b + dueN B b td).toInt = (B 5 b).toInt + (dueN B b td).toInt := fb_addI (by have := fb_rng (B 5 b); omega) (by have := fb_rng (B 1 b); omega)
          rw [o5, s5, s6]
          show (B 3 b).toInt ≤ (B 1 b).toInt - _ - (B 6 b).toInt - (B 8 b).toInt - (B 10 b).toInt
          omega
      · obtain ⟨v1, v2⟩ := u5 w
        have e1 : payB B R rc b td = pt B 5 b (B 5 b + dueN B b td) := by
          unfold payB
          rw [if_neg z, show tkD B b (nI rc) td = B from if_neg w]
        have e4 : mpay M rc b = mpy2 M rc b (dueN B b td) := by
          unfold mpay mtk
          rw [if_neg (mt hiff.mpr z), if_neg (fun g => g (by rw [v1]; exact Int32.le_refl _)), ← u1]
        rw [e1, e2, e4]
        exact P
  exact ⟨key.1, key.2, hiff⟩
theorem payR_o {B R : Nat → Nat → Int32} {rc b k i : Nat} {td : Int32} (h : k ≠ 2 ∧ k ≠ 3 ∧ k ≠ 6 ∧ k ≠ 7) : payR B R rc b td k i = R k i := by
  unfold payR addP
  rw [pt_o (fun z => h.2.1 z.1), pt_o (fun z => h.1 z.1), pt_o (fun z => h.2.2.2 z.1), pt_o (fun z => h.2.2.1 z.1)]
/-- the oldest bills -/
theorem sim_old {rc : Nat} {cu : Int32} (hrc : rc < q) : ∀ {k i : Nat} {B R M : Nat → Nat → Int32}, Rel tt B R td M n q → R 5 rc = 0 → i + k ≤ n → Rel tt (oldL rc cu td k i B R).1 (oldL rc cu td k i B R).2 td (mold rc cu k i M) n q ∧ (oldL rc cu td k i B R).2 5 rc = 0
  | 0, i, B, R, M, h, h5, _ => ⟨h, h5⟩
  | k + 1, i, B, R, M, h, h5, hi => by
    have e3 : R 3 rc = M 18 rc := (rr_at h.2.2.1 hrc).2.2.1
    rw [oldL, mold, ← e3]
    by_cases z : R 3 rc ≤ 0
    · rw [if_pos z, if_pos z]
      exact ⟨h, h5⟩
    · rw [if_neg z, if_neg z]
      have o := (opn_I h.1 h.2.1 (i := i) (by omega)).2.1
      have b0 := (h.1.2.2.2.2.2.2.1 i (by omega)).1
      have hiff : (B 0 i = cu ∧ ¬ opn B i ≤ 0) ↔ opq M cu i := by rw [o, b0]
      by_cases w : B 0 i = cu ∧ ¬ opn B i ≤ 0
      · rw [if_pos w, if_pos (hiff.mp w)]
        exact sim_old hrc (sim_pay h hrc (by omega) h5).1 (by rw [payR_o (by decide)]; exact h5) (by omega)
      · rw [if_neg w, if_neg (fun g => w (hiff.mpr g))]
        exact sim_old hrc h h5 (by omega)
/-- a receipt gets a customer -/
theorem sim_C {rc : Nat} {v : Int32} (h : Rel tt B R td M n q) : Rel tt B (pt R 0 rc v) td (pt M 17 rc v) n q := by
  obtain ⟨hc, hd, hr, hp, hs⟩ := h
  refine ⟨hc, hd, ⟨hr.1, hr.2.1, hr.2.2.1, fun r hr3 => ?_⟩, hp, hs⟩
  obtain ⟨⟨c1, c2, c3, c4, c5⟩, c6⟩ := hr.2.2.2 r hr3
  refine ⟨⟨?_, c2, c3, c4, c5⟩, c6⟩
  rw [pt_at, pt_at]
  by_cases z : r = rc
  · rw [if_pos ⟨rfl, z⟩, if_pos ⟨rfl, z⟩]
  · rw [if_neg (fun g => z g.2), if_neg (fun g => z g.2)]
    exact c1
theorem mnm2_d {rc : Nat} {rf : Int32} {M : Nat → Nat → Int32} (h : M 18 rc ≤ 0) : ∀ {k i : Nat}, mnm2 rc rf k i M = M
  | 0, _ => rfl
  | k + 1, i => by rw [mnm2, if_neg (fun z => z.2.2.2 h), mnm2_d h]
/-- the bills that are named -/
theorem sim_nam {rc : Nat} {rf cu : Int32} (hrc : rc < q) : ∀ {k i : Nat} {B R M : Nat → Nat → Int32}, Rel tt B R td M n q → R 5 rc = 0 → R 0 rc = cu → i + k ≤ n → Rel tt (namL rc rf cu td k i B R).1 (namL rc rf cu td k i B R).2 td (mnm2 rc rf k i M) n q ∧ (namL rc rf cu td k i B R).2 5 rc = 0
  | 0, i, B, R, M, h, h5, _, _ => ⟨h, h5⟩
  | k + 1, i, B, R, M, h, h5, h0, hi => by
    have hq : q ≤ 30 := h.2.2.1.2.2.1
    have e3 : R 3 rc = M 18 rc := (rr_at h.2.2.1 hrc).2.2.1
    have e0 : R 0 rc = M 17 rc := (rr_at h.2.2.1 hrc).1
    by_cases z : R 3 rc ≤ 0
    · rw [namL, if_pos z, mnm2_d (by rw [← e3]; exact z)]
      exact ⟨h, h5⟩
    · rw [namL, mnm2, if_neg z, ← e3, ← e0, h0]
      have o := (opn_I h.1 h.2.1 (i := i) (by omega)).2.1
      obtain ⟨b0, -, b2, -⟩ := h.1.2.2.2.2.2.2.1 i (by omega)
      have hiff : ((B 0 i = cu ∧ ¬ opn B i ≤ 0) ∧ B 2 i = rf) ↔ (M 3 i = cu ∧ M 5 i = rf ∧ ¬ mopn M i ≤ 0 ∧ ¬ R 3 rc ≤ 0) := by
        rw [o, b0, b2]
        exact ⟨fun ⟨⟨g1, g2⟩, g3⟩ => ⟨g1, g3, g2, z⟩, fun ⟨g1, g3, g2, _⟩ => ⟨⟨g1, g2⟩, g3⟩⟩
      by_cases w : (B 0 i = cu ∧ ¬ opn B i ≤ 0) ∧ B 2 i = rf
      · rw [if_pos w, if_pos (hiff.mp w)]
        obtain ⟨p1, p2, p3⟩ := sim_pay h hrc (b := i) (by omega) h5
        have q5 : payR B R rc i td 5 rc = 0 := by rw [payR_o (by decide)]; exact h5
        have q0 : payR B R rc i td 0 rc = cu := by rw [payR_o (by decide)]; exact h0
        by_cases y : R 3 rc < dueN B i td
        · rw [if_neg (fun g => g y), if_neg (fun g => g (by rw [e3]; exact p3.mp y))]
          exact sim_nam hrc (sim_D p1 (by omega) (by omega) p2) q5 q0 (by omega)
        · rw [if_pos y, if_pos (fun g => y (p3.mpr (by rw [← e3]; exact g)))]
          exact sim_nam hrc p1 q5 q0 (by omega)
      · rw [if_neg w, if_neg (fun g => w (hiff.mpr g))]
        exact sim_nam hrc h h5 h0 (by omega)
theorem pt_self {F : Nat → Nat → Int32} {k i : Nat} {x : Int32} (h : F k i = x) : pt F k i x = F := by
  funext a b
  rw [pt_at]
  by_cases e : a = k ∧ b = i
  · rw [if_pos e, e.1, e.2, h]
  · rw [if_neg e]
theorem pt_pt {F : Nat → Nat → Int32} {k i : Nat} {x y : Int32} : pt (pt F k i x) k i y = pt F k i y := by
  funext a b
  rw [pt_at, pt_at, pt_at]
  by_cases e : a = k ∧ b = i
  · rw [if_pos e, if_pos e]
  · rw [if_neg e, if_neg e, if_neg e]
theorem mnm1_e {rc : Nat} {rf : Int32} : ∀ {k i : Nat} {M : Nat → Nat → Int32}, (∀ j, j < i + k → ¬ M 3 j = -1) → (∀ j, j < i + k → B 0 j = M 3 j ∧ B 2 j = M 5 j ∧ opn B j = mopn M j) → M 17 rc = -1 → mnm1 rc rf k i M = pt M 17 rc (nmd B rf k i)
  | 0, i, M, _, _, h => (pt_self h).symm
  | k + 1, i, M, ho, hb, h => by
    obtain ⟨b0, b2, bo⟩ := hb i (by omega)
    rw [mnm1, if_pos h, nmd]
    by_cases z : B 2 i = rf ∧ ¬ opn B i ≤ 0
    · rw [if_pos z, if_pos (by rw [← b2, ← bo]; exact z), b0]
      cases k with
      | zero => rfl
      | succ k =>
        rw [mnm1, if_neg]
        rw [pt_s]
        exact ho i (by omega)
    · rw [if_neg z, if_neg (by rw [← b2, ← bo]; exact z), pt_self h]
      exact mnm1_e (fun j hj => ho j (by omega)) (fun j hj => hb j (by omega)) h
theorem mnm1_k {rc : Nat} {rf : Int32} {k i : Nat} {M : Nat → Nat → Int32} (h : ¬ M 17 rc = -1) : mnm1 rc rf k i M = M := by
  cases k with
  | zero => rfl
  | succ k => rw [mnm1, if_neg h]
/-- step 1 -/
theorem sim_names {rc : Nat} {rf : Int32} (h : Rel tt B R td M n q) (hrc : rc < q) (h5 : R 5 rc = 0) : Rel tt (namS B R rc rf n td).1 (namS B R rc rf n td).2 td (mnam M rc rf n) n q ∧ (namS B R rc rf n td).2 5 rc = 0 := by
  have e0 : R 0 rc = M 17 rc := (rr_at h.2.2.1 hrc).1
  unfold namS mnam
  by_cases z : R 0 rc = -1
  · rw [if_pos z, mnm1_e (B := B) (fun j hj => h.1.2.2.2.2.2.2.2.2 j (by omega)) (fun j hj => by
      have g := h.1.2.2.2.2.2.2.1 j (by omega)
      exact ⟨g.1, g.2.2.1, (opn_I h.1 h.2.1 (i := j) (by omega)).2.1⟩) (by rw [← e0]; exact z)]
    exact sim_nam hrc (sim_C h) h5 rfl (by omega)
  · rw [if_neg z, mnm1_k (by rw [← e0]; exact z)]
    exact sim_nam hrc h h5 rfl (by omega)
end SIMP
