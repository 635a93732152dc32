section SIME
variable {tt n q : Nat} {B R M : Nat → Nat → Int32} {td : Int32}
theorem f2_n {cu : Int32} {sm : Int64} {mn o t : Nat} (h : ∀ x, ¬ hit M cu sm n mn o t x) : f2 M cu sm n mn o t = none := by
  cases e : f2 M cu sm n mn o t with
  | none => rfl
  | some y =>
    obtain ⟨x, e1, e2⟩ := om_s e
    obtain ⟨j, h1, h2, h3, -⟩ := srch_y e1
    unfold f3 at h3
    rw [if_neg (h j)] at h3
    cases h3
theorem f1_n {cu : Int32} {sm : Int64} {mn o : Nat} (h : ∀ t x, ¬ hit M cu sm n mn o t x) : f1 M cu sm n mn o = none := by
  cases e : f1 M cu sm n mn o with
  | none => rfl
  | some y =>
    obtain ⟨x, e1, e2⟩ := om_s e
    obtain ⟨j, h1, h2, h3, -⟩ := srch_y e1
    rw [f2_n (h j)] at h3
    cases h3
theorem sr1 {α : Type} {f : Nat → Option α} : srch f (41 - 40) 40 = f 40 := by
  show srch f 1 40 = f 40
  rw [srch]
  cases f 40 <;> rfl
theorem m1_l : (-1 : Int32) < 0 := by decide
theorem z64 : ((0 : Int32).toInt64) = 0 := by decide
/-- what the offers say of the reference's amounts -/
def OV (M : Nat → Nat → Int32) (cu : Int32) (n m : Nat) (E : Nat → Nat → Int32) (g : Nat → Nat) : Prop := n ≤ 40 ∧ (∀ p, p < m → g p < n) ∧ (∀ p, p < m → mdo M cu n (g p) = E 1 p ∧ 0 ≤ (E 1 p).toInt ∧ (E 1 p).toInt ≤ 1000000) ∧ (∀ p p', p < p' → p' < m → g p < g p') ∧ ∀ j, (∀ p, p < m → g p ≠ j) → mdo M cu n j = -1
theorem ov_of {cu : Int32} {m : Nat} {E : Nat → Nat → Int32} {g : Nat → Nat} (h : Rel tt B R td M n q) (ho : OF B cu td n m E g) : OV M cu n m E g := by
  obtain ⟨h1, h2, h3, -⟩ := ho
  refine ⟨h.1.2.2.1, fun p hp => (h1 p hp).1, fun p hp => ?_, h2, fun j hj => mdo_x h fun w => ?_⟩
  · obtain ⟨a1, a2, a3, a4⟩ := h1 p hp
    rw [a4]
    exact mdo_y h a1 a2
  · obtain ⟨p, a1, a2⟩ := h3 j w.1 w.2
    exact hj p a1 a2
theorem sub2 {s a x : Int32} (hs : 0 ≤ s.toInt) (ha : 0 ≤ a.toInt ∧ a.toInt ≤ 1000000) : x = s - a ↔ a.toInt + x.toInt = s.toInt := by
  have r := fb_rng s
  have e : (s - a).toInt = s.toInt - a.toInt := fb_subI (by omega) (by omega)
  constructor
  · intro g
    rw [g, e]
    omega
  · intro g
    exact eqI (by rw [e]; omega)
theorem sub3 {s a b x : Int32} (hs : 0 ≤ s.toInt) (ha : 0 ≤ a.toInt ∧ a.toInt ≤ 1000000) (hb : 0 ≤ b.toInt ∧ b.toInt ≤ 1000000) : x = s - a - b ↔ a.toInt + b.toInt + x.toInt = s.toInt := by
  have r := fb_rng s
  have e : (s - a).toInt = s.toInt - a.toInt := fb_subI (by omega) (by omega)
  have e' : (s - a - b).toInt = s.toInt - a.toInt - b.toInt := by rw [fb_subI (by omega) (by omega), e]
  constructor
  · intro g
    rw [g, e']
    omega
  · intro g
    exact eqI (by rw [e']; omega)
section
variable {cu sm : Int32} {m : Nat} {E : Nat → Nat → Int32} {g : Nat → Nat}
theorem ov_40 (h : OV M cu n m E g) : mdo M cu n 40 = -1 := h.2.2.2.2 40 fun p hp z => by
  have h1 := h.2.1 p hp
  have h2 := h.1
  omega
theorem hit1 (h : OV M cu n m E g) (hs : 0 ≤ sm.toInt) {p : Nat} (hp : p < m) : hit M cu sm.toInt64 n 1 (g p) 40 40 ↔ E 1 p = sm := by
  obtain ⟨a1, a2, a3⟩ := h.2.2.1 p hp
  have z0 : 0 ≤ (0 : Int32).toInt ∧ (0 : Int32).toInt ≤ 1000000 := by decide
  unfold hit
  rw [a1, ov_40 h, if_pos m1_l, s64 ⟨a2, a3⟩ z0 z0, i0]
  constructor
  · intro w
    exact eqI (by have := w.2.2.2; omega)
  · intro w
    subst w
    exact ⟨nlt0 a2, ⟨fun z => absurd m1_l z, fun z => absurd z (by decide)⟩, ⟨fun z => absurd m1_l z, fun z => absurd z (by decide)⟩, by omega⟩
theorem hit2 (h : OV M cu n m E g) (hs : 0 ≤ sm.toInt) {p p' : Nat} (hp : p < m) (hp' : p' < m) : hit M cu sm.toInt64 n 2 (g p) (g p') 40 ↔ E 1 p' = sm - E 1 p := by
  obtain ⟨a1, a2, a3⟩ := h.2.2.1 p hp
  obtain ⟨b1, b2, b3⟩ := h.2.2.1 p' hp'
  have z0 : 0 ≤ (0 : Int32).toInt ∧ (0 : Int32).toInt ≤ 1000000 := by decide
  unfold hit
  rw [a1, b1, ov_40 h, if_pos m1_l, if_neg (nlt0 b2), s64 ⟨a2, a3⟩ ⟨b2, b3⟩ z0, i0, sub2 hs ⟨a2, a3⟩]
  constructor
  · intro w
    have := w.2.2.2
    omega
  · intro w
    exact ⟨nlt0 a2, ⟨fun _ => by decide, fun _ => nlt0 b2⟩, ⟨fun z => absurd m1_l z, fun z => absurd z (by decide)⟩, by omega⟩
theorem hit3 (h : OV M cu n m E g) (hs : 0 ≤ sm.toInt) {p p' r : Nat} (hp : p < m) (hp' : p' < m) (hr : r < m) : hit M cu sm.toInt64 n 3 (g p) (g p') (g r) ↔ E 1 r = sm - E 1 p - E 1 p' := by
  obtain ⟨a1, a2, a3⟩ := h.2.2.1 p hp
  obtain ⟨b1, b2, b3⟩ := h.2.2.1 p' hp'
  obtain ⟨c1, c2, c3⟩ := h.2.2.1 r hr
  unfold hit
  rw [a1, b1, c1, if_neg (nlt0 b2), if_neg (nlt0 c2), s64 ⟨a2, a3⟩ ⟨b2, b3⟩ ⟨c2, c3⟩, sub3 hs ⟨a2, a3⟩ ⟨b2, b3⟩]
  constructor
  · intro w
    exact w.2.2.2
  · intro w
    exact ⟨nlt0 a2, ⟨fun _ => by decide, fun _ => nlt0 b2⟩, ⟨fun _ => by decide, fun _ => nlt0 c2⟩, w⟩
theorem ov_n1 (h : OV M cu n m E g) {j mn t x : Nat} {s : Int64} (hj : ∀ p, p < m → g p ≠ j) : ¬ hit M cu s n mn j t x := fun w => by
  have := w.1
  rw [h.2.2.2.2 j hj] at this
  exact this m1_l
theorem ov_n2 (h : OV M cu n m E g) {o j mn x : Nat} {s : Int64} (h1 : 1 < mn) (hj : ∀ p, p < m → g p ≠ j) : ¬ hit M cu s n mn o j x := fun w => by
  have := w.2.1.mpr h1
  rw [h.2.2.2.2 j hj] at this
  exact this m1_l
theorem ov_n3 (h : OV M cu n m E g) {o t j mn : Nat} {s : Int64} (h1 : 2 < mn) (hj : ∀ p, p < m → g p ≠ j) : ¬ hit M cu s n mn o t j := fun w => by
  have := w.2.2.1.mpr h1
  rw [h.2.2.2.2 j hj] at this
  exact this m1_l
theorem ov_hj (h : OV M cu n m E g) {p : Nat} (hp : p < m) : ∀ p', p' < m → (p + 1 ≤ p' ↔ g p + 1 ≤ g p') := fun p' hp' => by
  have mo := h.2.2.2.1
  constructor
  · intro w
    exact mo p p' w hp'
  · intro w
    rcases Nat.lt_trichotomy p p' with y | y | y
    · exact y
    · subst y; omega
    · have := mo p' p y hp
      omega
theorem or_if {α β : Type} {Rl : α → β → Prop} {P Q : Prop} [Decidable P] [Decidable Q] {x : α} {y : β} (h : Q ↔ P) (hr : Rl x y) : OR Rl (if P then some x else none) (if Q then some y else none) := by
  by_cases z : P
  · rw [if_pos z, if_pos (h.mpr z)]; exact hr
  · rw [if_neg z, if_neg (fun w => z (h.mp w))]; trivial
theorem or_1 (h : OV M cu n m E g) (hs : 0 ≤ sm.toInt) : OR (fun p x => x = (g p, 40, 40)) (oneE E sm m) (srch (f1 M cu sm.toInt64 n 1) n 0) := by
  unfold oneE
  rw [fnd_e]
  refine srch_tr (p0 := 0) (j0 := 0) h.2.1 h.2.2.2.1 (fun j hj w => f1_n fun t x => ov_n1 h w) (fun p hp => ⟨fun _ => Nat.zero_le _, fun _ => Nat.zero_le _⟩) (fun p _ hp => ?_)
  unfold f1
  rw [if_neg (show ¬ (1 : Nat) < 1 by decide), sr1]
  unfold f2
  rw [if_neg (show ¬ (2 : Nat) < 1 by decide), sr1]
  unfold f3
  have hh := hit1 h hs hp
  by_cases z : E 1 p = sm
  · rw [if_pos z, if_pos (hh.mpr z)]; rfl
  · rw [if_neg z, if_neg (fun w => z (hh.mp w))]; trivial
theorem or_2 (h : OV M cu n m E g) (hs : 0 ≤ sm.toInt) : OR (fun p x => x = (g p.1, g p.2, 40)) (two E sm m m 0) (srch (f1 M cu sm.toInt64 n 2) n 0) := by
  rw [two_e]
  refine srch_tr (p0 := 0) (j0 := 0) h.2.1 h.2.2.2.1 (fun j hj w => f1_n fun t x => ov_n1 h w) (fun p hp => ⟨fun _ => Nat.zero_le _, fun _ => Nat.zero_le _⟩) (fun p _ hp => ?_)
  unfold f1
  rw [if_pos (show (1 : Nat) < 2 by decide), fnd_e]
  refine or_map (Rl := fun p' y => y = (g p', 40)) ?_ (fun a b z => by rw [z])
  refine srch_tr (p0 := p + 1) (j0 := g p + 1) (fun p' hp' => by have := h.2.1 p' hp'; have := h.1; omega) h.2.2.2.1 (fun j hj w => f2_n fun x => ov_n2 h (by decide) w) (ov_hj h hp) (fun p' _ hp' => ?_)
  unfold f2
  rw [if_neg (show ¬ (2 : Nat) < 2 by decide), sr1]
  unfold f3
  have hh := hit2 h hs hp hp'
  by_cases z : E 1 p' = sm - E 1 p
  · rw [if_pos z, if_pos (hh.mpr z)]; rfl
  · rw [if_neg z, if_neg (fun w => z (hh.mp w))]; trivial
theorem or_3 (h : OV M cu n m E g) (hs : 0 ≤ sm.toInt) : OR (fun p x => x = (g p.1, g p.2.1, g p.2.2)) (thr E sm m m 0) (srch (f1 M cu sm.toInt64 n 3) n 0) := by
  rw [thr_e]
  refine srch_tr (p0 := 0) (j0 := 0) h.2.1 h.2.2.2.1 (fun j hj w => f1_n fun t x => ov_n1 h w) (fun p hp => ⟨fun _ => Nat.zero_le _, fun _ => Nat.zero_le _⟩) (fun p _ hp => ?_)
  unfold f1
  rw [if_pos (show (1 : Nat) < 3 by decide), thm_e]
  refine or_map (Rl := fun p' y => y = (g p'.1, g p'.2)) ?_ (fun a b z => by rw [z])
  refine srch_tr (p0 := p + 1) (j0 := g p + 1) (fun p' hp' => by have := h.2.1 p' hp'; have := h.1; omega) h.2.2.2.1 (fun j hj w => f2_n fun x => ov_n2 h (by decide) w) (ov_hj h hp) (fun p' _ hp' => ?_)
  unfold f2
  rw [if_pos (show (2 : Nat) < 3 by decide), fnd_e]
  refine or_map (Rl := fun r y => y = g r) ?_ (fun a b z => by rw [z])
  refine srch_tr (p0 := p' + 1) (j0 := g p' + 1) (fun r hr => by have := h.2.1 r hr; have := h.1; omega) h.2.2.2.1 (fun j hj w => ?_) (ov_hj h hp') (fun r _ hr => ?_)
  · unfold f3
    exact if_neg (ov_n3 h (by decide) w)
  · unfold f3
    exact or_if (hit3 h hs hp hp' hr) rfl
theorem mcs_1 {cu : Int32} {s : Int64} {x : Nat × Nat × Nat} (g1 : srch (f1 M cu s n 1) n 0 = some x) : mcs M cu s n = some (1, x) := by
  have e : f0 M cu s n 1 = some (1, x) := by unfold f0; rw [g1]; rfl
  show srch (f0 M cu s n) 3 1 = _
  rw [srch, e]
theorem mcs_2 {cu : Int32} {s : Int64} {x : Nat × Nat × Nat} (g1 : srch (f1 M cu s n 1) n 0 = none) (g2 : srch (f1 M cu s n 2) n 0 = some x) : mcs M cu s n = some (2, x) := by
  have e : f0 M cu s n 1 = none := by unfold f0; rw [g1]; rfl
  have e' : f0 M cu s n (1 + 1) = some (2, x) := by unfold f0; rw [g2]; rfl
  show srch (f0 M cu s n) 3 1 = _
  rw [srch, e]
  show srch (f0 M cu s n) 2 (1 + 1) = _
  rw [srch, e']
theorem mcs_3 {cu : Int32} {s : Int64} (g1 : srch (f1 M cu s n 1) n 0 = none) (g2 : srch (f1 M cu s n 2) n 0 = none) : mcs M cu s n = (srch (f1 M cu s n 3) n 0).map (fun x => (3, x)) := by
  have e : f0 M cu s n 1 = none := by unfold f0; rw [g1]; rfl
  have e' : f0 M cu s n (1 + 1) = none := by unfold f0; rw [g2]; rfl
  show srch (f0 M cu s n) 3 1 = _
  rw [srch, e]
  show srch (f0 M cu s n) 2 (1 + 1) = _
  rw [srch, e']
  show srch (f0 M cu s n) 1 3 = _
  rw [srch]
  cases e3 : srch (f1 M cu s n 3) n 0 with
  | none =>
    have e4 : f0 M cu s n 3 = none := by unfold f0; rw [e3]; rfl
    rw [e4]
    rfl
  | some x =>
    have e4 : f0 M cu s n 3 = some (3, x) := by unfold f0; rw [e3]; rfl
    rw [e4]
    rfl
theorem two_b {p p' : Nat} (e : two E sm m m 0 = some (p, p')) : p < m ∧ p' < m := by
  rw [two_e] at e
  obtain ⟨j, j1, j2, j3, -⟩ := srch_y e
  obtain ⟨y, k1, k2⟩ := om_s j3
  cases k2
  have k3 := fnd_y k1
  omega
theorem thr_b {p p' r : Nat} (e : thr E sm m m 0 = some (p, p', r)) : p < m ∧ p' < m ∧ r < m := by
  rw [thr_e] at e
  obtain ⟨j, j1, j2, j3, -⟩ := srch_y e
  obtain ⟨y, k1, k2⟩ := om_s j3
  cases k2
  rw [thm_e] at k1
  obtain ⟨j', j1', j2', j3', -⟩ := srch_y k1
  obtain ⟨y', k1', k2'⟩ := om_s j3'
  cases k2'
  have k3 := fnd_y k1'
  omega
/-- the same set is chosen -/
theorem ch_e (h : OV M cu n m E g) (hs : 0 ≤ sm.toInt) (h0 : ∀ p, p < m → E 0 p = nI (g p)) (h2 : E 2 0 = -1 ∧ E 2 1 = -1 ∧ E 2 2 = -1) {pl : Nat} (hpl : pl < 3) : chE E sm m 2 pl = if pl < mcN (mcs M cu sm.toInt64 n) then mcS M (mcs M cu sm.toInt64 n) 23 pl else -1 := by
  have A1 := or_1 h hs
  have A2 := or_2 h hs
  have A3 := or_3 h hs
  obtain ⟨h20, h21, h22⟩ := h2
  unfold chE
  cases e1 : oneE E sm m with
  | some p =>
    have hp : p < m := by have := (fnd_y e1).2.1; omega
    rw [e1] at A1
    cases g1 : srch (f1 M cu sm.toInt64 n 1) n 0 with
    | none => rw [g1] at A1; exact A1.elim
    | some x =>
      rw [g1] at A1
      have A1 : x = (g p, 40, 40) := A1
      subst A1
      rw [mcs_1 g1, if_pos (fun z => nomatch z)]
      rcases (show pl = 0 ∨ pl = 1 ∨ pl = 2 by omega) with rfl | rfl | rfl <;> simp [oneS, mcN, mcS, pt_at, h20, h21, h22, h0 p hp]
  | none =>
    rw [e1] at A1
    rw [if_neg (fun z => z rfl)]
    cases g1 : srch (f1 M cu sm.toInt64 n 1) n 0 with
    | some x => rw [g1] at A1; exact A1.elim
    | none =>
      cases e2 : two E sm m m 0 with
      | some x =>
        obtain ⟨p, p'⟩ := x
        have hb := two_b e2
        rw [e2] at A2
        cases g2 : srch (f1 M cu sm.toInt64 n 2) n 0 with
        | none => rw [g2] at A2; exact A2.elim
        | some x =>
          rw [g2] at A2
          have A2 : x = (g p, g p', 40) := A2
          subst A2
          rw [mcs_2 g1 g2, if_pos (fun z => nomatch z)]
          rcases (show pl = 0 ∨ pl = 1 ∨ pl = 2 by omega) with rfl | rfl | rfl <;> simp [twoS, mcN, mcS, pt_at, h20, h21, h22, h0 p hb.1, h0 p' hb.2]
      | none =>
        rw [e2] at A2
        rw [if_neg (fun z => z rfl)]
        cases g2 : srch (f1 M cu sm.toInt64 n 2) n 0 with
        | some x => rw [g2] at A2; exact A2.elim
        | none =>
          rw [mcs_3 g1 g2]
          cases e3 : thr E sm m m 0 with
          | none =>
            rw [e3] at A3
            cases g3 : srch (f1 M cu sm.toInt64 n 3) n 0 with
            | some x => rw [g3] at A3; exact A3.elim
            | none => rcases (show pl = 0 ∨ pl = 1 ∨ pl = 2 by omega) with rfl | rfl | rfl <;> simp [thrS, mcN, mcS, h20, h21, h22]
          | some x =>
            obtain ⟨p, p', r⟩ := x
            have hb := thr_b e3
            rw [e3] at A3
            cases g3 : srch (f1 M cu sm.toInt64 n 3) n 0 with
            | none => rw [g3] at A3; exact A3.elim
            | some x =>
              rw [g3] at A3
              have A3 : x = (g p, g p', g r) := A3
              subst A3
              rcases (show pl = 0 ∨ pl = 1 ∨ pl = 2 by omega) with rfl | rfl | rfl <;> simp [thrS, mcN, mcS, pt_at, h20, h21, h22, h0 p hb.1, h0 p' hb.2.1, h0 r hb.2.2]
end
/-- the relation does not read columns 0 and 23 -/
theorem rel_M {M' : Nat → Nat → Int32} (hM : ∀ k i, k ≠ 0 → k ≠ 23 → M' k i = M k i) (h : Rel tt B R td M n q) : Rel tt B R td M' n q := by
  have e : ∀ k, k ≠ 0 → k ≠ 23 → M' k = M k := fun k h1 h2 => funext fun i => hM k i h1 h2
  unfold Rel RC RD RR RP dsc at *
  simp only [e 1 (by decide) (by decide), e 2 (by decide) (by decide), e 3 (by decide) (by decide), e 4 (by decide) (by decide), e 5 (by decide) (by decide), e 6 (by decide) (by decide), e 7 (by decide) (by decide), e 8 (by decide) (by decide), e 9 (by decide) (by decide), e 10 (by decide) (by decide), e 11 (by decide) (by decide), e 12 (by decide) (by decide), e 13 (by decide) (by decide), e 14 (by decide) (by decide), e 15 (by decide) (by decide), e 16 (by decide) (by decide), e 17 (by decide) (by decide), e 18 (by decide) (by decide), e 19 (by decide) (by decide), e 20 (by decide) (by decide), e 21 (by decide) (by decide), e 22 (by decide) (by decide)]
  exact h
/-- the chosen bills are paid, on both sides -/
theorem sim_ex {rc N : Nat} {E : Nat → Nat → Int32} (hrc : rc < q) : ∀ {k i : Nat} {B R M : Nat → Nat → Int32}, i + k = 3 → N ≤ 3 → (∀ pl, pl < 3 → E 2 pl = if pl < N then M 23 pl else -1) → (∀ j, j < N → ∃ x, x < n ∧ M 23 j = nI x) → Rel tt B R td M n q → R 5 rc = 0 →
    Rel tt (exP E rc td n k i B R).1 (exP E rc td n k i B R).2 td (mex rc (N - i) i M) n q ∧ (exP E rc td n k i B R).2 5 rc = 0 ∧ (exP E rc td n k i B R).2 0 rc = R 0 rc
  | 0, i, B, R, M, hi, hN, hE, hv, h, h5 => by
    rw [show N - i = 0 by omega]
    exact ⟨h, h5, rfl⟩
  | k + 1, i, B, R, M, hi, hN, hE, hv, h, h5 => by
    have hn : n ≤ 40 := h.1.2.2.1
    rw [exP]
    by_cases z : i < N
    · obtain ⟨x, hx, e⟩ := hv i z
      have e2 : E 2 i = nI x := by rw [hE i (by omega), if_pos z, e]
      have e4 : (nI x).toNatClampNeg = x := nI_clamp (by omega)
      have P := sim_pay (b := x) h hrc hx h5
      have IH := sim_ex hrc (k := k) (i := i + 1) (E := E) (M := mpay M rc x) (by omega) hN (fun pl hpl => by rw [mpay_23]; exact hE pl hpl) (fun j hj => by rw [mpay_23]; exact hv j hj) P.1 (by rw [payR_o (by decide)]; exact h5)
      rw [e2, if_pos ⟨nlt0 (by rw [nI_toInt (by omega)]; omega), (nI_ltI (by omega) (by omega)).mpr hx⟩, show N - i = (N - (i + 1)) + 1 by omega, mex, e, e4]
      exact ⟨IH.1, IH.2.1, by rw [IH.2.2, payR_o (by decide)]⟩
    · have e2 : E 2 i = -1 := by rw [hE i (by omega), if_neg z]
      have IH := sim_ex hrc (k := k) (i := i + 1) (E := E) (by omega) hN hE hv h h5
      rw [show N - (i + 1) = 0 by omega] at IH
      rw [e2, if_neg (fun w => w.1 m1_l), show N - i = 0 by omega]
      exact IH
/-- steps 2 and 3 -/
theorem sim_oth {rc : Nat} {E : Nat → Nat → Int32} (h : Rel tt B R td M n q) (hrc : rc < q) (h5 : R 5 rc = 0) : Rel tt (othS B R E rc n td).1 (othS B R E rc n td).2.1 td (moth M rc n) n q := by
  have hq : q ≤ 30 := h.2.2.1.2.2.1
  obtain ⟨r0, r1, r3, -, -⟩ := rr_at h.2.2.1 hrc
  have r30 := (h.2.2.1.2.2.2 rc (by omega)).2.1
  unfold othS moth
  by_cases z : R 0 rc = -1
  · rw [if_pos z, if_pos (Or.inl (r0 ▸ z))]
    exact h
  · rw [if_neg z]
    by_cases w : R 3 rc ≤ 0
    · have e0 : R 3 rc = 0 := eqI (by have := leI.mp w; rw [i0] at *; omega)
      have o : oldL rc (R 0 rc) td n 0 B R = (B, R) := by
        cases n with
        | zero => rfl
        | succ k => rw [oldL, if_pos w]
      rw [if_pos w, if_pos (Or.inr (r3 ▸ e0)), o]
      exact h
    · have w0 : ¬ M 18 rc = 0 := fun g => w (by rw [r3, g]; decide)
      rw [if_neg w, if_neg (fun g => g.elim (fun g => z (r0.trans g)) w0), ← r0, ← r3]
      obtain ⟨g, ho⟩ := ofL_s (B := B) (td := td) (cu := R 0 rc) (k := n) (i := 0) (m := 0) (E := clrE E) (g := fun _ => 0) ⟨fun p hp => absurd hp (Nat.not_lt_zero _), fun p p' _ hp => absurd hp (Nat.not_lt_zero _), fun j hj => absurd hj (Nat.not_lt_zero _), by simp [clrE, pt_at], by simp [clrE, pt_at], by simp [clrE, pt_at]⟩
      rw [Nat.zero_add] at ho
      have ov := ov_of h ho
      have hh := fun pl (hpl : pl < 3) => ch_e (sm := R 3 rc) ov r30 (fun p hp => (ho.1 p hp).2.2.1) ho.2.2.2 hpl
      have hy := mcs_y M (R 0 rc) (R 3 rc).toInt64 n
      have hm := rel_M (M' := mcS M (mcs M (R 0 rc) (R 3 rc).toInt64 n)) (fun k i _ h2 => mcS_o h2) h
      have X := sim_ex (k := 3) (i := 0) (E := cesE B E (R 0 rc) (R 3 rc) td n) hrc rfl hy.1 hh hy.2 hm h5
      have Y := sim_old (cu := R 0 rc) (k := n) (i := 0) hrc X.1 X.2.1 (by omega)
      rw [X.2.2]
      exact Y.1
end SIME
