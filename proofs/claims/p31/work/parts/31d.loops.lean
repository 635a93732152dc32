/-! What is chosen, and the loops of the three steps. -/
section LOOPS
variable {ex : Nat} {B B' R R' : TBL} {n q rc b : Nat} {td : Int32} {mm ww : Nat → Int32}
def OF (B : Nat → Nat → Int32) (cu td : Int32) (i m : Nat) (E : Nat → Nat → Int32) (g : Nat → Nat) : Prop :=
  (∀ p, p < m → g p < i ∧ (B 0 (g p) = cu ∧ ¬ opn B (g p) ≤ 0) ∧ E 0 p = nI (g p) ∧ E 1 p = dueN B (g p) td) ∧ (∀ p p', p < p' → p' < m → g p < g p') ∧ (∀ j, j < i → (B 0 j = cu ∧ ¬ opn B j ≤ 0) → ∃ p, p < m ∧ g p = j) ∧ E 2 0 = -1 ∧ E 2 1 = -1 ∧ E 2 2 = -1
theorem ofL_s {cu : Int32} : ∀ {k i m : Nat} {E : Nat → Nat → Int32} {g : Nat → Nat}, OF B cu td i m E g → ∃ g', OF B cu td (i + k) (ofL B cu td k i m E).2 (ofL B cu td k i m E).1 g'
  | 0, i, m, E, g, h => ⟨g, h⟩
  | k + 1, i, m, E, g, h => by
    rw [ofL, show i + (k + 1) = i + 1 + k by omega]
    obtain ⟨h1, h2, h3, h4, h5, h6⟩ := h
    by_cases z : B 0 i = cu ∧ ¬ opn B i ≤ 0
    · rw [if_pos z]
      refine ofL_s (g := fun p => if p = m then i else g p) ⟨fun p hp => ?_, fun p p' hpp hp' => ?_, fun j hj hz => ?_, ?_, ?_, ?_⟩
      · have e0 : offE E m (nI i) (dueN B i td) 0 p = if p = m then nI i else E 0 p := by simp [offE, pt_at]
        have e1 : offE E m (nI i) (dueN B i td) 1 p = if p = m then dueN B i td else E 1 p := by simp [offE, pt_at]
        rw [e0, e1]
        by_cases w : p = m
        · simp only [if_pos w]
          exact ⟨Nat.lt_succ_self _, z, trivial, trivial⟩
        · simp only [if_neg w]
          obtain ⟨a1, a2, a3, a4⟩ := h1 p (by omega)
          exact ⟨by omega, a2, a3, a4⟩
      · show (if p = m then i else g p) < (if p' = m then i else g p')
        by_cases w : p' = m
        · rw [if_pos w, if_neg (by omega)]
          exact (h1 p (by omega)).1
        · rw [if_neg w, if_neg (by omega)]
          exact h2 p p' hpp (by omega)
      · by_cases w : j = i
        · exact ⟨m, Nat.lt_succ_self _, by show (if m = m then i else g m) = j; rw [if_pos rfl, w]⟩
        · obtain ⟨p, a1, a2⟩ := h3 j (by omega) hz
          exact ⟨p, by omega, by show (if p = m then i else g p) = j; rw [if_neg (by omega)]; exact a2⟩
      · exact h4
      · exact h5
      · exact h6
    · rw [if_neg z]
      refine ofL_s (g := g) ⟨fun p hp => ?_, h2, fun j hj hz => ?_, h4, h5, h6⟩
      · obtain ⟨a1, a2⟩ := h1 p hp
        exact ⟨by omega, a2⟩
      · rcases Nat.lt_or_ge j i with w | w
        · exact h3 j w hz
        · have : j = i := by omega
          subst this
          exact absurd hz z

theorem two_lt {E : TBL} {sm : Int32} {m p p' : Nat} : ∀ {k i : Nat}, i + k ≤ m → two E sm m k i = some (p, p') → p < m ∧ p' < m
  | 0, _, _, e => by cases e
  | k + 1, i, hk, e => by
    rw [two] at e
    cases hf : fnd (E 1) (sm - E 1 i) (m - (i + 1)) (i + 1) with
    | none =>
      rw [hf] at e
      exact two_lt (by omega) e
    | some z =>
      rw [hf] at e
      cases e
      have := (fnd_y hf).2.1
      omega
theorem thm_lt {E : TBL} {sm : Int32} {m i p p' : Nat} : ∀ {k j : Nat}, j + k ≤ m → thm E sm m i k j = some (p, p') → p < m ∧ p' < m
  | 0, _, _, e => by cases e
  | k + 1, j, hk, e => by
    rw [thm] at e
    cases hf : fnd (E 1) (sm - E 1 i - E 1 j) (m - (j + 1)) (j + 1) with
    | none =>
      rw [hf] at e
      exact thm_lt (by omega) e
    | some z =>
      rw [hf] at e
      cases e
      have := (fnd_y hf).2.1
      omega
theorem thr_lt {E : TBL} {sm : Int32} {m p p' p'' : Nat} : ∀ {k i : Nat}, i + k ≤ m → thr E sm m k i = some (p, p', p'') → p < m ∧ p' < m ∧ p'' < m
  | 0, _, _, e => by cases e
  | k + 1, i, hk, e => by
    rw [thr] at e
    cases hf : thm E sm m i (m - (i + 1)) (i + 1) with
    | none =>
      rw [hf] at e
      exact thr_lt (by omega) e
    | some z =>
      rw [hf] at e
      cases e
      have := thm_lt (by omega) hf
      omega
/-- what is chosen is a bill of the customer, or nothing -/
theorem ces_g {E : TBL} {cu sm : Int32} : ∀ pl, pl < 3 → cesE B E cu sm td n 2 pl = -1 ∨ ∃ b, b < n ∧ cesE B E cu sm td n 2 pl = nI b ∧ B 0 b = cu := by
  intro pl hpl
  obtain ⟨g, h1, h2, h3, h4, h5, h6⟩ := ofL_s (B := B) (td := td) (cu := cu) (k := n) (i := 0) (m := 0) (E := clrE E) (g := fun _ => 0) ⟨fun p hp => absurd hp (Nat.not_lt_zero _), fun p p' _ hp => absurd hp (Nat.not_lt_zero _), fun j hj => absurd hj (Nat.not_lt_zero _), by simp [clrE, pt_at], by simp [clrE, pt_at], by simp [clrE, pt_at]⟩
  unfold cesE
  generalize hE : (ofL B cu td n 0 0 (clrE E)).1 = E1 at h1 h4 h5 h6 ⊢
  generalize hm : (ofL B cu td n 0 0 (clrE E)).2 = m1 at h1 h2 h3 ⊢
  rw [Nat.zero_add] at h1 h3
  have hz : E1 2 pl = -1 := by
    rcases (show pl = 0 ∨ pl = 1 ∨ pl = 2 by omega) with e | e | e <;> rw [e] <;> assumption
  have hs : ∀ p, p < m1 → ∃ b, b < n ∧ E1 0 p = nI b ∧ B 0 b = cu := fun p hp => ⟨g p, (h1 p hp).1, (h1 p hp).2.2.1, (h1 p hp).2.1.1⟩
  unfold chE
  split
  · cases ho : oneE E1 sm m1 with
    | none => exact Or.inl hz
    | some p =>
      have hp : p < m1 := by
        have := (fnd_y ho).2.1
        omega
      show pt E1 2 0 (E1 0 p) 2 pl = -1 ∨ _
      by_cases e : pl = 0
      · right
        obtain ⟨b, k1, k2, k3⟩ := hs p hp
        exact ⟨b, k1, by show pt E1 2 0 (E1 0 p) 2 pl = nI b; rw [e, pt_s, k2], k3⟩
      · left
        rw [pt_o (by omega)]
        exact hz
  · split
    · cases ho : two E1 sm m1 m1 0 with
      | none => exact Or.inl hz
      | some w =>
        obtain ⟨p, p'⟩ := w
        have hp := two_lt (by omega) ho
        show pt (pt E1 2 0 (E1 0 p)) 2 1 (E1 0 p') 2 pl = -1 ∨ _
        by_cases e : pl = 1
        · right
          obtain ⟨b, k1, k2, k3⟩ := hs p' hp.2
          exact ⟨b, k1, by show pt (pt E1 2 0 (E1 0 p)) 2 1 (E1 0 p') 2 pl = nI b; rw [e, pt_s, k2], k3⟩
        · by_cases e2 : pl = 0
          · right
            obtain ⟨b, k1, k2, k3⟩ := hs p hp.1
            exact ⟨b, k1, by show pt (pt E1 2 0 (E1 0 p)) 2 1 (E1 0 p') 2 pl = nI b; rw [e2, pt_o (by omega), pt_s, k2], k3⟩
          · left
            rw [pt_o (by omega), pt_o (by omega)]
            exact hz
    · cases ho : thr E1 sm m1 m1 0 with
      | none => exact Or.inl hz
      | some w =>
        obtain ⟨p, p', p''⟩ := w
        have hp := thr_lt (by omega) ho
        show pt (pt (pt E1 2 0 (E1 0 p)) 2 1 (E1 0 p')) 2 2 (E1 0 p'') 2 pl = -1 ∨ _
        right
        rcases (show pl = 0 ∨ pl = 1 ∨ pl = 2 by omega) with e | e | e
        · obtain ⟨b, k1, k2, k3⟩ := hs p hp.1
          exact ⟨b, k1, by show pt (pt (pt E1 2 0 (E1 0 p)) 2 1 (E1 0 p')) 2 2 (E1 0 p'') 2 pl = nI b; rw [e, pt_o (by omega), pt_o (by omega), pt_s, k2], k3⟩
        · obtain ⟨b, k1, k2, k3⟩ := hs p' hp.2.1
          exact ⟨b, k1, by show pt (pt (pt E1 2 0 (E1 0 p)) 2 1 (E1 0 p')) 2 2 (E1 0 p'') 2 pl = nI b; rw [e, pt_o (by omega), pt_s, k2], k3⟩
        · obtain ⟨b, k1, k2, k3⟩ := hs p'' hp.2.2
          exact ⟨b, k1, by show pt (pt (pt E1 2 0 (E1 0 p)) 2 1 (E1 0 p')) 2 2 (E1 0 p'') 2 pl = nI b; rw [e, pt_s, k2], k3⟩
/-- what every payment keeps, step 3 keeps -/
theorem old_g {F : TBL → TBL → Prop} {cu : Int32} (hF : ∀ B R b, F B R → b < n → B 0 b = cu → F (payB B R rc b td) (payR B R rc b td)) : ∀ {k i : Nat} {B R : TBL}, i + k ≤ n → F B R → F (oldL rc cu td k i B R).1 (oldL rc cu td k i B R).2
  | 0, _, _, _, _, h => h
  | k + 1, i, B, R, hk, h => by
    rw [oldL]
    split
    · exact h
    · split
      · rename_i z
        exact old_g hF (by omega) (hF B R i h (by omega) z.1)
      · exact old_g hF (by omega) h
theorem exP_g {F : TBL → TBL → Prop} {E : TBL} {cu : Int32} (hn : n ≤ 40) (hE : ∀ pl, pl < 3 → E 2 pl = -1 ∨ ∃ b, b < n ∧ E 2 pl = nI b ∧ ww b = cu) (hF : ∀ B R b, F B R → b < n → ww b = cu → F (payB B R rc b td) (payR B R rc b td)) : ∀ {k i : Nat} {B R : TBL}, i + k ≤ 3 → F B R → F (exP E rc td n k i B R).1 (exP E rc td n k i B R).2
  | 0, _, _, _, _, h => h
  | k + 1, i, B, R, hk, h => by
    rw [exP]
    split
    · rename_i z
      rcases hE i (by omega) with e | ⟨b, e1, e2, e3⟩
      · rw [e] at z
        exact absurd (by decide) z.1
      · rw [e2, nI_clamp (by omega)]
        exact exP_g hn hE hF (by omega) (hF B R b h e1 e3)
    · exact exP_g hn hE hF (by omega) h
theorem nam_g {F : TBL → TBL → Prop} {cu rf : Int32} (hF : ∀ B R b, F B R → b < n → B 0 b = cu → F (payB B R rc b td) (payR B R rc b td)) (hG : ∀ B R b, F B R → b < n → R 7 (40 * rc + b) = 1 → F (dsp B b (nI rc)) R) : ∀ {k i : Nat} {B R : TBL}, i + k ≤ n → F B R → F (namL rc rf cu td k i B R).1 (namL rc rf cu td k i B R).2
  | 0, _, _, _, _, h => h
  | k + 1, i, B, R, hk, h => by
    rw [namL]
    split
    · exact h
    · split
      · rename_i z
        have h1 := hF B R i h (by omega) z.1.1
        split
        · exact nam_g hF hG (by omega) h1
        · refine nam_g hF hG (by omega) (hG _ _ i h1 (by omega) ?_)
          simp [payR, addP, pt_at]
      · exact nam_g hF hG (by omega) h
/-- the steps 2 and 3 -/
theorem oth_g {F : TBL → TBL → Prop} {E : TBL} {cu : Int32} (hn : n ≤ 40) (h0 : ∀ B R, F B R → R 0 rc = cu) (hw : ∀ B R b, F B R → b < n → B 0 b = ww b) (hF : ∀ B R b, F B R → b < n → ww b = cu → F (payB B R rc b td) (payR B R rc b td)) (h : F B R) : F (othS B R E rc n td).1 (othS B R E rc n td).2.1 := by
  have hF' : ∀ B R b, F B R → b < n → B 0 b = cu → F (payB B R rc b td) (payR B R rc b td) := fun B R b h hb e => hF B R b h hb (by rw [← hw B R b h hb]; exact e)
  unfold othS
  split
  · exact h
  · split
    · rw [h0 B R h]
      exact old_g hF' (by omega) h
    · have h1 : F (exP (cesE B E (R 0 rc) (R 3 rc) td n) rc td n 3 0 B R).1 (exP (cesE B E (R 0 rc) (R 3 rc) td n) rc td n 3 0 B R).2 := by
        refine exP_g (ww := ww) (cu := cu) hn (fun pl hpl => ?_) hF (by omega) h
        rcases ces_g (B := B) (n := n) (td := td) (E := E) (cu := R 0 rc) (sm := R 3 rc) pl hpl with e | ⟨b, e1, e2, e3⟩
        · exact Or.inl e
        · exact Or.inr ⟨b, e1, e2, by rw [← hw B R b h e1, e3]; exact h0 B R h⟩
      rw [h0 _ _ h1]
      exact old_g hF' (by omega) h1
theorem payB_o {j kk : Nat} (h : j ≠ b) : payB B R rc b td kk j = B kk j := by
  unfold payB tkD
  split
  · exact pt_o (by omega)
  · rw [pt_o (by omega)]
    split
    · rw [pt_o (by omega), pt_o (by omega)]
    · rfl
theorem old_k {cu : Int32} {j kk : Nat} : ∀ {k i : Nat} {B R : TBL}, j < i → (oldL rc cu td k i B R).1 kk j = B kk j
  | 0, _, _, _, _ => rfl
  | k + 1, i, B, R, h => by
    rw [oldL]
    split
    · rfl
    · split
      · rw [old_k (by omega), payB_o (by omega)]
      · exact old_k (by omega)
theorem old_0 {cu : Int32} (h : R 3 rc ≤ 0) : ∀ {k i : Nat}, oldL rc cu td k i B R = (B, R)
  | 0, _ => rfl
  | k + 1, i => by rw [oldL, if_pos h]
theorem oI2_c {i : Nat} (h : ∀ k, B' k i = B k i) : oI2 B' i = oI2 B i := by
  unfold oI2
  rw [h, h, h, h, h]
/-- where something is left behind step 3, no bill of the customer is open -/
theorem old_end {cu : Int32} (hrc : rc < q) : ∀ {k i : Nat} {B R : TBL}, i + k ≤ n → Inx ex B R n q mm ww → R 0 rc = cu → R 5 rc = 0 → 0 < ((oldL rc cu td k i B R).2 3 rc).toInt → ∀ b, i ≤ b → b < i + k → ww b = cu → oI2 (oldL rc cu td k i B R).1 b = 0
  | 0, _, _, _, _, _, _, _, _, b, h1, h2, _ => absurd h1 (by omega)
  | k + 1, i, B, R, hk, h, h0, h5, hp, b, h1, h2, hw => by
    rw [oldL] at hp ⊢
    by_cases z : R 3 rc ≤ 0
    · rw [if_pos z] at hp
      rw [leI, i0] at z
      exact absurd hp (by show ¬ 0 < (R 3 rc).toInt; omega)
    · rw [if_neg z] at hp ⊢
      by_cases z2 : B 0 i = cu ∧ ¬ opn B i ≤ 0
      · rw [if_pos z2] at hp ⊢
        obtain ⟨s, hs⟩ := pay_s (td := td) h hrc (show i < n by omega)
        have hv := PayS.inv h hs hrc (by omega) h5 (by rw [h0, z2.1])
        obtain ⟨-, ⟨p3, -, -⟩, -, -, -, -, p9⟩ := hs
        by_cases e : b = i
        · subst e
          rw [oI2_c (fun kk => old_k (Nat.lt_succ_self _))]
          rcases p9 with p9 | p9
          · rw [old_0 (by rw [leI, p9, i0]; exact Int.le_refl _)] at hp
            exact absurd hp (by show ¬ 0 < (payR B R rc b td 3 rc).toInt; omega)
          · exact p9
        · exact old_end hrc (by omega) hv ((p3 0 rc (by decide) (by decide) (by decide) (by decide)).trans h0) ((p3 5 rc (by decide) (by decide) (by decide) (by decide)).trans h5) hp b (by omega) (by omega) hw
      · rw [if_neg z2] at hp ⊢
        by_cases e : b = i
        · subst e
          rw [oI2_c (B := B) (fun kk => old_k (Nat.lt_succ_self _))]
          have ho := opn_I h.1 (show b < n by omega)
          have hle : opn B b ≤ 0 := Classical.byContradiction fun w => z2 ⟨((h.1.2.2.1 b (by omega)).1).trans hw, w⟩
          rw [leI, i0] at hle
          omega
        · exact old_end hrc (by omega) h h0 h5 hp b (by omega) (by omega) hw
end LOOPS
