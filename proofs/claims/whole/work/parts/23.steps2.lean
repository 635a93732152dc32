section SIMT
variable {tt n q : Nat} {B R M : Nat → Nat → Int32} {td : Int32}
-- what paying leaves of a receipt's columns
theorem payR_4 {rc b r : Nat} : payR B R rc b td 4 r = R 4 r := payR_o (by decide)
theorem payR_3 {rc b r : Nat} (h : r ≠ rc) : payR B R rc b td 3 r = R 3 r := by
  unfold payR addP
  rw [pt_o (fun z => h z.2), pt_o (fun z => absurd z.1 (by decide)), pt_o (fun z => absurd z.1 (by decide)), pt_o (fun z => absurd z.1 (by decide))]
/-- columns 3 and 4 of a receipt, but column 3 of receipt rc -/
def K4 (rc : Nat) (R R' : Nat → Nat → Int32) : Prop := ∀ r, R' 4 r = R 4 r ∧ (r ≠ rc → R' 3 r = R 3 r)
theorem k4_r {rc : Nat} : K4 rc R R := fun _ => ⟨rfl, fun _ => rfl⟩
theorem k4_t {rc : Nat} {R' R'' : Nat → Nat → Int32} (h : K4 rc R R') (h' : K4 rc R' R'') : K4 rc R R'' := fun r => ⟨(h' r).1.trans (h r).1, fun z => ((h' r).2 z).trans ((h r).2 z)⟩
theorem k4_p {rc b : Nat} : K4 rc R (payR B R rc b td) := fun _ => ⟨payR_4, payR_3⟩
theorem k4_0 {rc : Nat} {v : Int32} : K4 rc R (pt R 0 rc v) := fun _ => ⟨pt_o (fun z => absurd z.1 (by decide)), fun _ => pt_o (fun z => absurd z.1 (by decide))⟩
theorem k4_old {rc : Nat} {cu : Int32} : ∀ {k i : Nat} {B R : Nat → Nat → Int32}, K4 rc R (oldL rc cu td k i B R).2
  | 0, _, _, _ => k4_r
  | k + 1, i, B, R => by
    rw [oldL]
    split
    · exact k4_r
    · split
      · exact k4_t k4_p k4_old
      · exact k4_old
theorem k4_ex {E : Nat → Nat → Int32} {rc n : Nat} : ∀ {k i : Nat} {B R : Nat → Nat → Int32}, K4 rc R (exP E rc td n k i B R).2
  | 0, _, _, _ => k4_r
  | k + 1, i, B, R => by
    rw [exP]
    split
    · exact k4_t k4_p k4_ex
    · exact k4_ex
theorem k4_nam {rc : Nat} {rf cu : Int32} : ∀ {k i : Nat} {B R : Nat → Nat → Int32}, K4 rc R (namL rc rf cu td k i B R).2
  | 0, _, _, _ => k4_r
  | k + 1, i, B, R => by
    rw [namL]
    split
    · exact k4_r
    · split
      · split
        · exact k4_t k4_p k4_nam
        · exact k4_t k4_p k4_nam
      · exact k4_nam
theorem k4_ns {rc : Nat} {rf : Int32} : K4 rc R (namS B R rc rf n td).2 := by
  unfold namS
  split
  · exact k4_t k4_0 k4_nam
  · exact k4_nam
theorem k4_oth {E : Nat → Nat → Int32} {rc : Nat} : K4 rc R (othS B R E rc n td).2.1 := by
  unfold othS
  split
  · exact k4_r
  · split
    · exact k4_old
    · exact k4_t k4_ex k4_old
theorem old_d {rc : Nat} {cu : Int32} (h : R 3 rc ≤ 0) : ∀ {k i : Nat}, oldL rc cu td k i B R = (B, R)
  | 0, _ => rfl
  | k + 1, i => by rw [oldL, if_pos h]
theorem oth_d {E : Nat → Nat → Int32} {rc : Nat} (h : R 3 rc ≤ 0) : (othS B R E rc n td).2.1 = R := by
  unfold othS
  split
  · rfl
  · rw [old_d h]
theorem le00 : (0 : Int32) ≤ 0 := by decide
theorem rq_oth {E : Nat → Nat → Int32} {rc : Nat} (hq : Rq4 R) : Rq4 (othS B R E rc n td).2.1 := by
  intro r hr
  obtain ⟨g1, g2⟩ := hq r hr
  have k := k4_oth (B := B) (R := R) (E := E) (rc := rc) (n := n) (td := td) r
  rw [k.1]
  refine ⟨g1, ?_⟩
  by_cases z : r = rc
  · subst z
    rcases g2 with g | g
    · exact Or.inl g
    · rw [oth_d (by rw [g]; exact le00)]
      exact Or.inr g
  · rw [k.2 z]
    exact g2
theorem sim_apl {rc : Nat} {E : Nat → Nat → Int32} (h : Rl2 tt B R td M n q) (hrc : rc < q) (h5 : R 5 rc = 0) : Rl2 tt (othS B R E rc n td).1 (othS B R E rc n td).2.1 td (moth M rc n) n q := ⟨sim_oth h.1 hrc h5, rq_oth h.2⟩
theorem sim_asg {rc : Nat} {cu : Int32} {E : Nat → Nat → Int32} (h : Rl2 tt B R td M n q) (hrc : rc < q) (h5 : R 5 rc = 0) :
    Rl2 tt (othS B (pt R 0 rc cu) E rc n td).1 (othS B (pt R 0 rc cu) E rc n td).2.1 td (moth (pt M 17 rc cu) rc n) n q :=
  sim_apl ⟨sim_C h.1, fun r hr => by rw [(k4_0 (rc := rc) (v := cu) r).1, pt_o (fun z => absurd z.1 (by decide))]; exact h.2 r hr⟩ hrc (by rw [pt_o (fun z => absurd z.1 (by decide))]; exact h5)
theorem sim_rcv {cu am rf : Int32} {E : Nat → Nat → Int32} (h : Rl2 tt B R td M n q) (hq3 : q < 30) (h3 : ¬ am < 1) (h5 : ¬ rf < 0) :
    Rl2 tt (rcvS B R E q cu am rf n td).1 (rcvS B R E q cu am rf n td).2.1 td (mrcv M q cu am rf n) n (q + 1) := by
  obtain ⟨P, P5⟩ := sim_rc0 (cu := cu) (am := am) h hq3 h3
  unfold rcvS mrcv
  by_cases z : rf = 0
  · rw [if_pos z, if_pos (by rw [z]; exact le00)]
    exact sim_apl P (Nat.lt_succ_self _) P5
  · have z' : ¬ rf ≤ 0 := fun w => z (eqI (by
      have a1 := leI.mp w
      have a2 := fb_nl h5 i0
      rw [i0] at *
      omega))
    rw [if_neg z, if_neg z']
    have N := sim_names (rf := rf) P.1 (Nat.lt_succ_self _) P5
    have z4 : R 4 q = 0 := ((h.1.2.2.1.2.2.2 q hq3).2.2.2.2.2 (Nat.le_refl _)).2.1
    refine sim_apl ⟨N.1, fun r hr => ?_⟩ (Nat.lt_succ_self _) N.2
    have k := k4_ns (B := B) (R := addR R q cu am) (rc := q) (rf := rf) (n := n) (td := td) r
    rw [k.1]
    by_cases w : r = q
    · subst w
      have e4 : addR R r cu am 4 r = 0 := by simp [addR, pt_at, z4]
      rw [e4]
      exact ⟨by decide, Or.inl rfl⟩
    · rw [k.2 w]
      exact P.2 r hr
/-- what is left is paid back -/
theorem sim_pbk {rc : Nat} (h : Rl2 tt B R td M n q) (hrc : rc < q) (h5 : R 5 rc = 0) (h3 : ¬ R 3 rc = 0) : Rl2 tt B (pbR R rc) td (mpbk M rc) n q := by
  obtain ⟨⟨hc, hd, hr, hp, hs⟩, hq⟩ := h
  have r : ∀ k i, pbR R rc k i = if k = 4 ∧ i = rc then R 4 rc + R 3 rc else if k = 3 ∧ i = rc then 0 else R k i := fun k i => by simp only [pbR, pt_at]
  have m : ∀ k i, mpbk M rc k i = if k = 18 ∧ i = rc then 0 else if k = 19 ∧ i = rc then M 19 rc + M 18 rc else if k = 0 ∧ i = 0 then 0 else M k i := fun k i => by simp only [mpbk, pt_at]
  have hq30 := hr.2.2.1
  have q1 := hq rc (by omega)
  have e4 : R 4 rc = 0 := q1.2.resolve_right h3
  have r30 := (hr.2.2.2 rc (by omega)).2.1
  refine ⟨⟨?_, ?_, ⟨by simpa [r] using hr.1, by simpa [m] using hr.2.1, hq30, ?_⟩, ?_, ?_⟩, ?_⟩
  · have : RC tt B td (mpbk M rc) n ↔ RC tt B td M n := by unfold RC dsc; simp [m]
    exact this.mpr hc
  · have : RD B (mpbk M rc) n ↔ RD B M n := by unfold RD; simp [m]
    exact this.mpr hd
  · intro r' hr3
    obtain ⟨⟨g1, g2, g3, g4, g5⟩, g6, g7, g8, g9, g10⟩ := hr.2.2.2 r' hr3
    by_cases z : r' = rc
    · subst z
      simp only [r, m]
      simp
      refine ⟨⟨g1, g2, by rw [g4, g3], g5⟩, g7, fun w => ?_, fun w => absurd h5 w, fun w => by omega⟩
      rw [g8 w]
      grind
    · simp only [r, m]
      simp [z]
      exact ⟨⟨g1, g2, g3, g4, g5⟩, g6, g7, g8, g9, g10⟩
  · have : RP (pbR R rc) (mpbk M rc) n q ↔ RP R M n q := by unfold RP; simp [m, r]
    exact this.mpr hp
  · have : RS B (pbR R rc) ↔ RS B R := by unfold RS; simp [r]
    exact this.mpr hs
  · intro r' hr3
    have := hq r' hr3
    by_cases z : r' = rc
    · subst z
      simp [r, e4]
      exact r30
    · simpa [r, z] using this
/-- a dispute is settled -/
theorem sim_stl {i : Nat} {zz : Int32} (h : Rl2 tt B R td M n q) (hi : i < n) : Rl2 tt (edD B i zz) R td (mstl M i zz) n q := by
  obtain ⟨⟨hc, hd, hr, hp, hs⟩, hq⟩ := h
  have b : ∀ k j, edD B i zz k j = if k = 9 ∧ j = i then -1 else if k = 8 ∧ j = i then 0 else if k = 10 ∧ j = i then (if zz = 0 then B 10 i else B 10 i + B 8 i) else B k j := fun k j => by
    unfold edD
    by_cases z : zz = 0
    · simp only [if_pos z, pt_at]
      by_cases w : k = 10 ∧ j = i
      · obtain ⟨rfl, rfl⟩ := w; simp
      · simp [w]
    · simp only [if_neg z, pt_at]
  have m : ∀ k j, mstl M i zz k j = if k = 13 ∧ j = i then -1 else if k = 12 ∧ j = i then 0 else if k = 14 ∧ j = i then (if zz = 0 then M 14 i else M 14 i + M 12 i) else if k = 0 ∧ j = 0 then 0 else M k j := fun k j => by
    unfold mstl
    by_cases z : zz = 0
    · simp only [if_pos z, pt_at, Int32.add_zero]
    · simp only [if_neg z, pt_at]
  have hn := hc.2.2.1
  refine ⟨⟨?_, ?_, ⟨hr.1, by simpa [m] using hr.2.1, hr.2.2.1, ?_⟩, ?_, ?_⟩, hq⟩
  · have : RC tt (edD B i zz) td (mstl M i zz) n ↔ RC tt B td M n := by unfold RC dsc; simp [m, b]
    exact this.mpr hc
  · intro j hj
    obtain ⟨⟨g1, g2, g3, g4, g5⟩, ⟨g6, g7, g8, g9⟩, g10, g11, g12⟩ := hd j hj
    by_cases z : j = i
    · subst z
      have g10 := g10 hi
      simp only [b, m]
      simp
      by_cases y : zz = 0
      · simp only [if_pos y]
        exact ⟨⟨g1, g2, g4⟩, ⟨g6, g7, g9⟩, fun _ => by omega, fun w => by omega, g12⟩
      · simp only [if_neg y]
        have hb := (hc.2.2.2.2.2.2.1 j hi).2.2.2.2.2.2.1
        have e : (B 10 j + B 8 j).toInt = (B 10 j).toInt + (B 8 j).toInt := fb_addI (by omega) (by omega)
        rw [e]
        exact ⟨⟨g1, g2, by rw [g4, g3]⟩, ⟨g6, g7, by omega⟩, fun _ => by omega, fun w => by omega, g12⟩
    · simp only [b, m]
      simp [z]
      exact ⟨⟨g1, g2, g3, g4, g5⟩, ⟨g6, g7, g8, g9⟩, g10, g11, g12⟩
  · intro r hr3
    have := hr.2.2.2 r hr3
    simpa [m] using this
  · intro r j hr3 hj
    obtain ⟨g1, g2, g3, g4, g5, g6, g7, g8⟩ := hp r j hr3 hj
    have e11 : mstl M i zz 11 j = M 11 j := by simp [m]
    have e13 : mstl M i zz 13 j = if j = i then -1 else M 13 j := by simp [m]
    have e21 : mstl M i zz 21 (40 * r + j) = M 21 (40 * r + j) := by simp [m]
    have e22 : mstl M i zz 22 (40 * r + j) = M 22 (40 * r + j) := by simp [m]
    rw [e11, e13, e21, e22]
    refine ⟨g1, g2, g3, g4, g5, g6, g7, fun w1 w2 => ?_⟩
    by_cases z : j = i
    · rw [if_pos z] at w2
      exact absurd w2.symm (nI_m1 (by omega))
    · rw [if_neg z] at w2
      exact g8 w1 w2
  · have : RS (edD B i zz) R ↔ RS B R := by unfold RS; simp [b]
    exact this.mpr hs
/-- days go by -/
theorem sim_adv {dd : Int32} (h : Rl2 tt B R td M n q) (ht : tt ≤ 100000) (h1 : ¬ dd < 1) (h2 : dd ≤ 100) : Rl2 (tt + 1) B R (td + dd) (pt (pt M 0 0 0) 1 0 (M 1 0 + dd)) n q := by
  obtain ⟨⟨hc, hd, hr, hp, hs⟩, hq⟩ := h
  have h1 := fb_nl h1 i1
  have h2 := fb_le h2 (show (100 : Int32).toInt = 100 by decide)
  have m : ∀ k j, pt (pt M 0 0 0) 1 0 (M 1 0 + dd) k j = if k = 1 ∧ j = 0 then M 1 0 + dd else if k = 0 ∧ j = 0 then 0 else M k j := fun k j => by simp only [pt_at]
  generalize pt (pt M 0 0 0) 1 0 (M 1 0 + dd) = M' at m ⊢
  obtain ⟨c1, c2, c3, c4, c5, c6, c7, c8, c9⟩ := hc
  have e : (td + dd).toInt = td.toInt + dd.toInt := fb_addI (by omega) (by omega)
  refine ⟨⟨⟨c1, by simpa [m] using c2, c3, by simp [m, c4], by omega, by omega, fun i hi => ?_, fun i j h1 h2 => by simpa [m] using c8 i j h1 h2, fun i hi => by simpa [m] using c9 i hi⟩, ?_, ?_, ?_, hs⟩, hq⟩
  · obtain ⟨g1, g2, g3, g4, g5, g6, g7, g8, g9, g10, g11⟩ := c7 i hi
    have e3 : dsc M' i = dsc M i := by simp [dsc, m]
    have e6 : M' 6 i = M 6 i := by simp [m]
    have e8 : M' 8 i = M 8 i := by simp [m]
    rw [e3, e6, e8]
    exact ⟨by simpa [m] using g1, by simpa [m] using g2, by simpa [m] using g3, g4, g5, g6, g7, g8, g9, g10, by omega⟩
  · have : RD B M' n ↔ RD B M n := by unfold RD; simp [m]
    exact this.mpr hd
  · have : RR R M' q ↔ RR R M q := by unfold RR; simp [m]
    exact this.mpr hr
  · have : RP R M' n q ↔ RP R M n q := by unfold RP; simp [m]
    exact this.mpr hp
end SIMT
