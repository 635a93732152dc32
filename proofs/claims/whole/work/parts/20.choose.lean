section SIMC
variable {tt n q : Nat} {B R M : Nat → Nat → Int32} {td : Int32}
/-- two searches that go alike -/
def OR {α β : Type} (Rl : α → β → Prop) : Option α → Option β → Prop
  | none, none => True
  | some x, some y => Rl x y
  | _, _ => False
theorem srch_tr {α β : Type} {F : Nat → Option α} {G : Nat → Option β} {m N : Nat} {g : Nat → Nat} {Rl : α → β → Prop} (hg : ∀ p, p < m → g p < N) (mono : ∀ p p', p < p' → p' < m → g p < g p')
    (hn : ∀ j, j < N → (∀ p, p < m → g p ≠ j) → G j = none) {p0 j0 : Nat} (hj : ∀ p, p < m → (p0 ≤ p ↔ j0 ≤ g p)) (hr : ∀ p, p0 ≤ p → p < m → OR Rl (F p) (G (g p))) : OR Rl (srch F (m - p0) p0) (srch G (N - j0) j0) := by
  cases e1 : srch F (m - p0) p0 with
  | none =>
    cases e2 : srch G (N - j0) j0 with
    | none => trivial
    | some y =>
      obtain ⟨j, h1, h2, h3, -⟩ := srch_y e2
      have : ∃ p, p < m ∧ g p = j := by
        refine Classical.byContradiction fun z => ?_
        have := hn j (by omega) (fun p hp he => z ⟨p, hp, he⟩)
        rw [this] at h3
        cases h3
      obtain ⟨p, hp, rfl⟩ := this
      have hp0 := (hj p hp).mpr h1
      have := hr p hp0 hp
      rw [srch_n e1 p hp0 (by omega), h3] at this
      exact this.elim
  | some x =>
    obtain ⟨p, h1, h2, h3, h4⟩ := srch_y e1
    have hp : p < m := by omega
    have hrp := hr p h1 hp
    rw [h3] at hrp
    cases e3 : G (g p) with
    | none => rw [e3] at hrp; exact hrp.elim
    | some y =>
      rw [e3] at hrp
      cases e2 : srch G (N - j0) j0 with
      | none =>
        have := srch_n e2 (g p) ((hj p hp).mp h1) (by have := hg p hp; omega)
        rw [e3] at this
        cases this
      | some y' =>
        obtain ⟨j, g1, g2, g3, g4⟩ := srch_y e2
        have hjp : j ≤ g p := by
          rcases Nat.lt_or_ge (g p) j with w | w
          · have := g4 (g p) ((hj p hp).mp h1) w
            rw [e3] at this
            cases this
          · exact w
        have : ∃ p', p' < m ∧ g p' = j := by
          refine Classical.byContradiction fun z => ?_
          have := hn j (by omega) (fun p hp he => z ⟨p, hp, he⟩)
          rw [this] at g3
          cases g3
        obtain ⟨p', hp', rfl⟩ := this
        have hpp : p' = p := by
          rcases Nat.lt_trichotomy p' p with w | w | w
          · have hp0 := (hj p' hp').mpr g1
            have hh := hr p' hp0 hp'
            rw [h4 p' hp0 w, g3] at hh
            exact hh.elim
          · exact w
          · have := mono p p' w hp'
            omega
        subst hpp
        rw [e3] at g3
        cases g3
        exact hrp
theorem or_map {α β α' β' : Type} {Rl : α → β → Prop} {Rl' : α' → β' → Prop} {f : α → α'} {f' : β → β'} {x : Option α} {y : Option β} (h : OR Rl x y) (hf : ∀ a b, Rl a b → Rl' (f a) (f' b)) : OR Rl' (x.map f) (y.map f') := by
  cases x <;> cases y
  · trivial
  · exact h.elim
  · exact h.elim
  · exact hf _ _ h
theorem or_n {α β : Type} {Rl : α → β → Prop} {x : Option α} {y : Option β} (h : OR Rl x y) : x = none ↔ y = none := by
  cases x <;> cases y
  · exact ⟨fun _ => rfl, fun _ => rfl⟩
  · exact h.elim
  · exact h.elim
  · exact ⟨fun z => (by cases z), fun z => (by cases z)⟩
-- the class's searches as srch
theorem fnd_e {f : Nat → Int32} {sm : Int32} : ∀ {k i : Nat}, fnd f sm k i = srch (fun j => if f j = sm then some j else none) k i
  | 0, _ => rfl
  | k + 1, i => by
    rw [fnd, srch]
    by_cases z : f i = sm
    · rw [if_pos z, if_pos z]
    · rw [if_neg z, if_neg z, fnd_e]
theorem two_e {E : Nat → Nat → Int32} {sm : Int32} {n : Nat} : ∀ {k i : Nat}, two E sm n k i = srch (fun i => (fnd (E 1) (sm - E 1 i) (n - (i + 1)) (i + 1)).map (fun q => (i, q))) k i
  | 0, _ => rfl
  | k + 1, i => by
    rw [two, srch]
    cases e : fnd (E 1) (sm - E 1 i) (n - (i + 1)) (i + 1) with
    | none => exact two_e
    | some q => rfl
theorem thm_e {E : Nat → Nat → Int32} {sm : Int32} {n i : Nat} : ∀ {k j : Nat}, thm E sm n i k j = srch (fun j => (fnd (E 1) (sm - E 1 i - E 1 j) (n - (j + 1)) (j + 1)).map (fun q => (j, q))) k j
  | 0, _ => rfl
  | k + 1, j => by
    rw [thm, srch]
    cases e : fnd (E 1) (sm - E 1 i - E 1 j) (n - (j + 1)) (j + 1) with
    | none => exact thm_e
    | some q => rfl
theorem thr_e {E : Nat → Nat → Int32} {sm : Int32} {n : Nat} : ∀ {k i : Nat}, thr E sm n k i = srch (fun i => (thm E sm n i (n - (i + 1)) (i + 1)).map (fun x => (i, x))) k i
  | 0, _ => rfl
  | k + 1, i => by
    rw [thr, srch]
    cases e : thm E sm n i (n - (i + 1)) (i + 1) with
    | none => exact thr_e
    | some q => rfl
/-- which bills are offered, in which order -/
def OF (B : Nat → Nat → Int32) (cu td : Int32) (i m : Nat) (E : Nat → Nat → Int32) (g : Nat → Nat) : Prop :=
  (∀ p, p < m → g p < i ∧ (B 0 (g p) = cu ∧ ¬ opn B (g p) ≤ 0) ∧ E 0 p = nI (g p) ∧ E 1 p = dueN B (g p) td) ∧ (∀ p p', p < p' → p' < m → g p < g p') ∧ (∀ j, j < i → (B 0 j = cu ∧ ¬ opn B j ≤ 0) → ∃ p, p < m ∧ g p = j) ∧ E 2 0 = -1 ∧ E 2 1 = -1 ∧ E 2 2 = -1
theorem ofL_s {cu : Int32} : ∀ {k i m : Nat} {E : Nat → Nat → Int32} {g : Nat → Nat}, OF B cu td i m E g → ∃ g', OF B cu td (i + k) (ofL B cu td k i m E).2 (ofL B cu td k i m E).1 g'
  | 0, i, m, E, g, h => ⟨g, h⟩
  | k + 1, i, m, E, g, h => by
    rw [ofL, show i + (k + 1) = i + 1 + k by omega]
    obtain ⟨h1, h2, h3, h4, h5, h6⟩ := h
    by_cases z : B 0 i = cu ∧ ¬ opn B i ≤ 0
    · rw [if_pos z]
      refine ofL_s (g := fun p => if p = m then i else g p) ⟨fun p hp => ?_, fun p p' hpp hp' => ?_, fun j hj hz => ?_, ?_, ?_, ?_⟩
      · have e0 : offE E m (nI i) (dueN B i td) 0 p = if p = m then nI i else E 0 p := by simp [offE, pt_at]
        have e1 : offE E m (nI i) (dueN B i td) 1 p = if p = m then dueN B i td else E 1 p := by simp [offE, pt_at]
        rw [e0, e1]
        by_cases w : p = m
        · simp only [if_pos w]
          exact ⟨Nat.lt_succ_self _, z, trivial, trivial⟩
        · simp only [if_neg w]
          obtain ⟨a1, a2, a3, a4⟩ := h1 p (by omega)
          exact ⟨by omega, a2, a3, a4⟩
      · show (if p = m then i else g p) < (if p' = m then i else g p')
        by_cases w : p' = m
        · rw [if_pos w, if_neg (by omega)]
          exact (h1 p (by omega)).1
        · rw [if_neg w, if_neg (by omega)]
          exact h2 p p' hpp (by omega)
      · by_cases w : j = i
        · exact ⟨m, Nat.lt_succ_self _, by show (if m = m then i else g m) = j; rw [if_pos rfl, w]⟩
        · obtain ⟨p, a1, a2⟩ := h3 j (by omega) hz
          exact ⟨p, by omega, by show (if p = m then i else g p) = j; rw [if_neg (by omega)]; exact a2⟩
      · exact h4
      · exact h5
      · exact h6
    · rw [if_neg z]
      refine ofL_s (g := g) ⟨fun p hp => ?_, h2, fun j hj hz => ?_, h4, h5, h6⟩
      · obtain ⟨a1, a2⟩ := h1 p hp
        exact ⟨by omega, a2⟩
      · rcases Nat.lt_or_ge j i with w | w
        · exact h3 j w hz
        · have : j = i := by omega
          subst this
          exact absurd hz z
theorem x64 (x : Int32) : x.toInt64.toInt = x.toInt := Int32.toInt_toInt64 x
theorem s64 {x y z s : Int32} (hx : 0 ≤ x.toInt ∧ x.toInt ≤ 1000000) (hy : 0 ≤ y.toInt ∧ y.toInt ≤ 1000000) (hz : 0 ≤ z.toInt ∧ z.toInt ≤ 1000000) : x.toInt64 + y.toInt64 + z.toInt64 = s.toInt64 ↔ x.toInt + y.toInt + z.toInt = s.toInt := by
  have bm : ∀ w : Int, -9223372036854775808 ≤ w → w < 9223372036854775808 → w.bmod (2 ^ 64) = w := fun w h1 h2 => by rw [Int.bmod_eq_of_le (by omega) (by omega)]
  have a1 : (x.toInt64 + y.toInt64).toInt = x.toInt + y.toInt := by rw [Int64.toInt_add, x64, x64, bm _ (by omega) (by omega)]
  have a2 : (x.toInt64 + y.toInt64 + z.toInt64).toInt = x.toInt + y.toInt + z.toInt := by rw [Int64.toInt_add, a1, x64, bm _ (by omega) (by omega)]
  constructor
  · intro h
    have := congrArg Int64.toInt h
    rw [a2, x64] at this
    exact this
  · intro h
    refine Int64.toInt_inj.mp ?_
    rw [a2, x64, h]
theorem mdo_y {cu : Int32} {j : Nat} (h : Rel tt B R td M n q) (hj : j < n) (hz : B 0 j = cu ∧ ¬ opn B j ≤ 0) : mdo M cu n j = dueN B j td ∧ 0 ≤ (dueN B j td).toInt ∧ (dueN B j td).toInt ≤ 1000000 := by
  have o := opn_I h.1 h.2.1 hj
  have u := due_I h.1 h.2.1 hj
  have b := h.1.2.2.2.2.2.2.1 j hj
  refine ⟨?_, u.2.1, by omega⟩
  unfold mdo
  rw [if_pos ⟨hj, by rw [← b.1]; exact hz.1, by rw [← o.2.1]; exact hz.2⟩, u.1]
theorem mdo_x {cu : Int32} {j : Nat} (h : Rel tt B R td M n q) (hz : ¬ (j < n ∧ B 0 j = cu ∧ ¬ opn B j ≤ 0)) : mdo M cu n j = -1 := by
  unfold mdo
  refine if_neg fun w => hz ⟨w.1, ?_⟩
  have o := opn_I h.1 h.2.1 w.1
  have b := h.1.2.2.2.2.2.2.1 j w.1
  rw [b.1, o.2.1]
  exact w.2
theorem nlt0 {x : Int32} (h : 0 ≤ x.toInt) : ¬ x < 0 := fun z => by
  have := ltI.mp z
  rw [i0] at this
  omega
end SIMC
