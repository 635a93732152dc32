theorem bilK_0 {n : Nat} {cu am rf rt dy : Int32} (h : billK n cu am rf rt dy = 0) : n < 40 ∧ ¬ cu < 0 ∧ cu < 8 ∧ ¬ am < 1 ∧ am ≤ 1000000 ∧ ¬ rf < 1 ∧ rf ≤ 9999 ∧ ¬ rt < 0 ∧ rt ≤ 10000 ∧ ¬ dy < 0 ∧ dy ≤ 90 := by
  unfold billK at h
  split at h
  · cases h
  · rename_i z1
    split at h
    · cases h
    · rename_i z2
      split at h
      · rename_i z3
        simp only [not_or, Classical.not_not] at z1 z2
        exact ⟨z3, z1.1, z1.2, z2.1.1, z2.1.2, z2.2.1.1, z2.2.1.2, z2.2.2.1.1, z2.2.2.1.2, z2.2.2.2.1, z2.2.2.2.2⟩
      · cases h
theorem rcvK_0 {n : Nat} {cu am rf : Int32} (h : rcvK n cu am rf = 0) : n < 30 ∧ (cu = -1 ∨ (¬ cu < 0 ∧ cu < 8)) ∧ ¬ am < 1 ∧ am ≤ 1000000 ∧ ¬ rf < 0 ∧ rf ≤ 9999 := by
  unfold rcvK at h
  split at h
  · cases h
  · rename_i z1
    split at h
    · cases h
    · rename_i z2
      split at h
      · rename_i z3
        simp only [not_or, Classical.not_not] at z2
        refine ⟨z3, ?_, z2.1.1, z2.1.2, z2.2.1, z2.2.2⟩
        by_cases y : cu = -1
        · exact Or.inl y
        · exact Or.inr ⟨fun w => z1 ⟨y, Or.inl w⟩, Classical.not_not.mp fun w => z1 ⟨y, Or.inr w⟩⟩
      · cases h
theorem stlK_0i {tt n q : Nat} {B R M : Nat → Nat → Int32} {td vx : Int32} (h : Rel tt B R td M n q) (hk : stlK B vx = 0) : ∃ r, r < n ∧ vx = nI r ∧ ¬ B 8 r = 0 := by
  have hn := h.1.2.2.1
  unfold stlK at hk
  split at hk
  · cases hk
  · rename_i z
    rw [h.1.1] at z
    obtain ⟨r, h1, h2⟩ := ix_of (n := n) (by omega) (fun w => z (Or.inl w)) (Classical.not_not.mp fun w => z (Or.inr w))
    have e2 : vx.toNatClampNeg = r := by rw [h2]; exact nI_clamp (by omega)
    rw [e2] at hk
    split at hk
    · cases hk
    · rename_i y
      exact ⟨r, h1, h2, y⟩
theorem mstl_0 {M : Nat → Nat → Int32} {i : Nat} {zz : Int32} : mstl M i zz 0 0 = 0 := by
  unfold mstl
  split <;> simp [pt_at]
theorem nix {x w : Int32} {k : Nat} (hB : w = nI k) (hk : ¬ ¬ (x < 0 ∨ ¬ x < w)) : ¬ (¬ x < 0 ∧ x < nI k) := fun z => hk (fun y => y.elim z.1 (fun u => u (hB ▸ z.2)))
theorem bix {tt n q : Nat} {B R M : Nat → Nat → Int32} {td vx : Int32} (h : Rel tt B R td M n q) (z : ¬ (vx < 0 ∨ ¬ vx < B 11 0)) : ∃ r, r < n ∧ vx = nI r := by
  have hn := h.1.2.2.1
  rw [h.1.1] at z
  exact ix_of (n := n) (by omega) (fun w => z (Or.inl w)) (Classical.not_not.mp fun w => z (Or.inr w))
section LWB
variable {p : Program} {l : Launch} {e : Env} {R : Room} {s : State} {m : MethodId} {args : Array Value} {below : List Frame} {meth : Method} {c : Code} {H : Heap} {locs : List Loc} {cells slots : Nat} {Q : State → Prop}
variable {ls : Array Slot} {D : va_G} {A : Nat → Prop} {a g : Nat → Nat} {cI cZ cL : ClassId} {B C E M : Nat → Nat → Int32} {td : Int32} {oo : Nat → Int64} {b L i tt n q : Nat} {xs : Nat → Int32}
/-- what holds of the law's frame, whatever was called -/
def LwF (p : Program) (l : Launch) (R : Room) (s : State) (m : MethodId) (args : Array Value) (c : Code) (D : va_G) (A : Nat → Prop) (cI cZ cL : ClassId) (b L : Nat) (xs : Nat → Int32) : Prop :=
  p.tables.exec = Jvm.exec ∧ c.code = cL_law ∧ c.maxLocals = 7 ∧ s.vm.findClass RL = some m.cls ∧ (∀ w ∈ wsL_law, w.before args s = true) ∧ va_K D vwCl (tyl3 cI cZ cL) s ∧ (∀ q, s.heap.size ≤ q → A q) ∧ va_X b L xs s s.heap ∧ b < s.heap.size ∧ ¬ A b ∧ ExB s ∧ ExZ A s s.heap ∧ l.stackTraces = false ∧ L ≤ 3072 ∧ R = room_1
/-- what holds between two calls -/
def LwS (s : State) (D : va_G) (A : Nat → Prop) (a g : Nat → Nat) (cI cZ cL : ClassId) (b i tt n q : Nat) (B C E : Nat → Nat → Int32) (td : Int32) (oo : Nat → Int64) (M : Nat → Nat → Int32) (H : Heap) (locs : List Loc) (ls : Array Slot) : Prop :=
  Rl2 tt B C td M n q ∧ va_P D vwCl (wLM a g cI cZ cL B C E td oo M) H ∧ va_D A (wLM a g cI cZ cL B C E td oo M) ∧ va_S A s.heap H locs ∧ lv_has ls 7 [(0, .ref b), (1, .ref (a 0)), (2, .ref (g 0)), (3, .ref (a 26)), (4, .int (nI i))]
/-- how a case goes on -/
def LwK (p : Program) (l : Launch) (e : Env) (R : Room) (s : State) (m : MethodId) (args : Array Value) (below : List Frame) (meth : Method) (c : Code) (Q : State → Prop) (D : va_G) (A : Nat → Prop) (a g : Nat → Nat) (cI cZ cL : ClassId) (b i tt cells slots : Nat) : Prop :=
  ∀ (n q : Nat) (B C E : Nat → Nat → Int32) (td : Int32) (oo : Nat → Int64) (M : Nat → Nat → Int32) (H : Heap) (locs : List Loc) (ls : Array Slot), LwS s D A a g cI cZ cL b i (tt + 1) n q B C E td oo M H locs ls → W p l e R s m args below meth c H locs (cells + 1) (slots + 6) Q (F0 m 1547 ls [])
set_option maxHeartbeats 4000000 in
set_option maxRecDepth 100000 in
theorem lc_bill (F : LwF p l R s m args c D A cI cZ cL b L xs) (S : LwS s D A a g cI cZ cL b i tt n q B C E td oo M H locs ls) (hi : i + 6 ≤ L) (ht : tt ≤ 1000) (hcs : cells + 1 ≤ 1086 ∧ slots + 6 ≤ 14466)
    (kk : LwK p l e R s m args below meth c Q D A a g cI cZ cL b i tt cells slots) : W p l e R s m args below meth c H locs cells slots Q (F0 m 168 ls []) := by
  obtain ⟨hx, hb, hml, hown, hts, hK3, hA, hSc, hbl, hbA, hX, hZ, hfl, hL, rfl⟩ := F
  obtain ⟨h, hP, hD, hS, hl⟩ := S
  have hK : va_K D vwCl (tyl cI cZ) s := hK3.sub (tys' := tyl cI cZ) [0, 1] rfl
  have hB : B 11 0 = nI n := h.1.1.1
  have hM : M 2 0 = nI n := h.1.1.2.1
  have hn : n ≤ 40 := h.1.1.2.2.1
  have hC : C 8 0 = nI q := h.1.2.2.1.1
  have hMq : M 15 0 = nI q := h.1.2.2.1.2.1
  have hq : q ≤ 30 := h.1.2.2.1.2.2.1
  have hso : ∀ i j, i ≤ j → j < n → M 6 i ≤ M 6 j := h.1.1.2.2.2.2.2.2.2.1
  have hs0 : ∀ i, i < n → 0 ≤ M 6 i := fun i hi => leI.mpr (by rw [i0]; exact (h.1.1.2.2.2.2.2.2.1 i hi).2.2.2.2.2.2.2.2.2.1)
  refine lv_aload_n hx hb dL_law_168 rfl (lv_at hl 1 rfl) ?_
  refine arg_ld hx hb hl 0 4 rfl rfl 1 hi hL hSc hbl hbA hS (by decide) rfl dL_law_169 dL_law_170 dL_law_172 rfl dL_law_173 dL_law_174 ?_
  refine arg_ld hx hb hl 0 4 rfl rfl 2 hi hL hSc hbl hbA hS (by decide) rfl dL_law_175 dL_law_176 dL_law_178 rfl dL_law_179 dL_law_180 ?_
  refine arg_ld hx hb hl 0 4 rfl rfl 3 hi hL hSc hbl hbA hS (by decide) rfl dL_law_181 dL_law_182 dL_law_184 rfl dL_law_185 dL_law_186 ?_
  refine arg_ld hx hb hl 0 4 rfl rfl 4 hi hL hSc hbl hbA hS (by decide) rfl dL_law_187 dL_law_188 dL_law_190 rfl dL_law_191 dL_law_192 ?_
  refine arg_ld hx hb hl 0 4 rfl rfl 5 hi hL hSc hbl hbA hS (by decide) rfl dL_law_193 dL_law_194 dL_law_196 rfl dL_law_197 dL_law_198 ?_
  refine lv_aload_n hx hb dL_law_199 rfl (lv_at hl 3 rfl) ?_
  by_cases hk : billK n (xs (i + 1)) (xs (i + 2)) (xs (i + 3)) (xs (i + 4)) (xs (i + 5)) = 0
  · obtain ⟨k0, k1, k2, k3, k4, k5, k6, k7, k8, k9, k10⟩ := bilK_0 hk
    have h1 := sim_bill (rf := (xs (i + 3))) h k0 (by omega) k1 k3 k4 k7 k8 k9 k10
    have h' := rl_t (tt' := tt + 1) h1 (Nat.le_succ _)
    refine zcSL (wf := fun (_ : Unit) => wLM a g cI cZ cL (addB B n (xs (i + 1)) (xs (i + 2)) (xs (i + 3)) (dcO (xs (i + 2)) (xs (i + 4))) (td + (xs (i + 5)))) C E td (vp_updL oo 0 (nI n).toInt64) M) ksLL ⟨hx, hb, hml, hown, hts⟩ (zwLL hP hD hS hA) hK3 hX hZ (c_L_bill_0 l D cI cZ cL a H.size B C E td n (xs (i + 1)) (xs (i + 2)) (xs (i + 3)) (xs (i + 4)) (xs (i + 5)) oo hB k0 k1 k2 k3 k4 k5 k6 k7 k8 k9 k10) (vx_cwSW 7 hts gL_law_L_bill rfl rfl rfl (by decide +kernel) ⟨Nat.le_of_ble_eq_true rfl, Nat.le_of_ble_eq_true rfl⟩) (by decide) (fun _ => rfl) rfl hl.1 rfl (Nat.le_of_ble_eq_true rfl) dL_law_200 ⟨by show cells + 0 ≤ 1086; omega, by show slots + 0 ≤ 14466; omega⟩ (fun r u H locs hw hP hD hS => ?_)
    have hw : r = 0 := hw
    subst hw
    refine lv_istore (lv' := [(5, .int (0)), (0, .ref b), (1, .ref (a 0)), (2, .ref (g 0)), (3, .ref (a 26)), (4, .int (nI i))]) hx hb dL_law_203 hl (by decide) rfl (fun ls hl => ?_)
    refine lv_aload_n hx hb dL_law_205 rfl (lv_at hl 3 rfl) ?_
    refine arg_ld hx hb hl 1 5 rfl rfl 1 hi hL hSc hbl hbA hS (by decide) rfl dL_law_206 dL_law_207 dL_law_209 rfl dL_law_210 dL_law_211 ?_
    refine arg_ld hx hb hl 1 5 rfl rfl 2 hi hL hSc hbl hbA hS (by decide) rfl dL_law_212 dL_law_213 dL_law_215 rfl dL_law_216 dL_law_217 ?_
    refine arg_ld hx hb hl 1 5 rfl rfl 3 hi hL hSc hbl hbA hS (by decide) rfl dL_law_218 dL_law_219 dL_law_221 rfl dL_law_222 dL_law_223 ?_
    refine arg_ld hx hb hl 1 5 rfl rfl 4 hi hL hSc hbl hbA hS (by decide) rfl dL_law_224 dL_law_225 dL_law_227 rfl dL_law_228 dL_law_229 ?_
    refine arg_ld hx hb hl 1 5 rfl rfl 5 hi hL hSc hbl hbA hS (by decide) rfl dL_law_230 dL_law_231 dL_law_233 rfl dL_law_234 dL_law_235 ?_
    refine zcVi (ci := 4) (q0 := 0) (wf := fun (u : Nat → Nat → Int32) => wLM a g cI cZ cL (addB B n (xs (i + 1)) (xs (i + 2)) (xs (i + 3)) (dcO (xs (i + 2)) (xs (i + 4))) (td + (xs (i + 5)))) C E td (vp_updL oo 0 (nI n).toInt64) u) ksMM ⟨hx, hb, hml, hown, hts⟩ (zwMM hP hD hS hA) hK (c_X4_bill_0 l D cI cZ g H.size M n (xs (i + 1)) (xs (i + 2)) (xs (i + 3)) (xs (i + 4)) (xs (i + 5)) hM k0 k1 k2 k3 k4 k5 k6 k7 k8 k9 k10) (cwV 5 hts gL_law_X4_bill rfl rfl rfl (by decide +kernel) ⟨Nat.le_of_ble_eq_true rfl, Nat.le_of_ble_eq_true rfl⟩) rfl rfl (by decide) (fun _ => rfl) rfl hl.1 rfl (Nat.le_of_ble_eq_true rfl) dL_law_236 ⟨by show cells + 0 + 0 ≤ 1086; omega, by show slots + 0 + 0 ≤ 14466; omega⟩ (fun r u H locs hw hP hD hS => ?_)
    obtain ⟨rfl, rfl⟩ := hw
    refine lv_istore (lv' := [(6, .int ((nI n))), (5, .int (0)), (0, .ref b), (1, .ref (a 0)), (2, .ref (g 0)), (3, .ref (a 26)), (4, .int (nI i))]) hx hb dL_law_239 hl (by decide) rfl (fun ls hl => ?_)
    refine lw_tail (tgt := 1547) hx hb hml hown hts hK3 hA hP hD hS ⟨by decide, by decide⟩ ⟨by show cells + 0 + 0 ≤ 1086; omega, by show slots + 0 + 0 ≤ 14466; omega⟩ hl (by simp [mbil, pt_at]) (fun _ => congrArg Int32.toInt64 rfl) dL_law_241 dL_law_242 dL_law_245 dL_law_247 dL_law_252 dL_law_254 dL_law_257 dL_law_258 dL_law_259 dL_law_260 dL_law_262 dL_law_263 dL_law_264 dL_law_269 (by decide) (fun H locs hP hD hS => ?_)
    exact W.widen (by omega) (by omega) (kk _ _ _ _ _ _ _ _ _ _ _ ⟨h', hP, hD, hS, lv_sub hl [2, 3, 4, 5, 6] rfl⟩)
  · have hK5 : ¬ nI (billK n (xs (i + 1)) (xs (i + 2)) (xs (i + 3)) (xs (i + 4)) (xs (i + 5))) = 0 := nI_ne0 (by omega) (by rcases (billK_c : (billK n (xs (i + 1)) (xs (i + 2)) (xs (i + 3)) (xs (i + 4)) (xs (i + 5))) = 0 ∨ (billK n (xs (i + 1)) (xs (i + 2)) (xs (i + 3)) (xs (i + 4)) (xs (i + 5))) = 1 ∨ (billK n (xs (i + 1)) (xs (i + 2)) (xs (i + 3)) (xs (i + 4)) (xs (i + 5))) = 2 ∨ (billK n (xs (i + 1)) (xs (i + 2)) (xs (i + 3)) (xs (i + 4)) (xs (i + 5))) = 3) with z | z | z | z <;> omega)
    refine zcSL (wf := fun (_ : Unit) => wLM a g cI cZ cL B C E td oo M) ksLL ⟨hx, hb, hml, hown, hts⟩ (zwLL hP hD hS hA) hK3 hX hZ (c_L_bill_k l hfl D cI cZ cL a H.size B C E td n (xs (i + 1)) (xs (i + 2)) (xs (i + 3)) (xs (i + 4)) (xs (i + 5)) oo hB hn hk) (vx_cwSW 7 hts gL_law_L_bill rfl rfl rfl (by decide +kernel) ⟨Nat.le_of_ble_eq_true rfl, Nat.le_of_ble_eq_true rfl⟩) (by decide) (fun _ => rfl) rfl hl.1 rfl (Nat.le_of_ble_eq_true rfl) dL_law_200 ⟨hcs.1, hcs.2⟩ (fun r u H locs hw hP hD hS => ?_)
    have hw : r = nI (billK n (xs (i + 1)) (xs (i + 2)) (xs (i + 3)) (xs (i + 4)) (xs (i + 5))) := hw
    subst hw
    refine lv_istore (lv' := [(5, .int (nI (billK n (xs (i + 1)) (xs (i + 2)) (xs (i + 3)) (xs (i + 4)) (xs (i + 5))))), (0, .ref b), (1, .ref (a 0)), (2, .ref (g 0)), (3, .ref (a 26)), (4, .int (nI i))]) hx hb dL_law_203 hl (by decide) rfl (fun ls hl => ?_)
    refine lv_aload_n hx hb dL_law_205 rfl (lv_at hl 3 rfl) ?_
    refine arg_ld hx hb hl 1 5 rfl rfl 1 hi hL hSc hbl hbA hS (by decide) rfl dL_law_206 dL_law_207 dL_law_209 rfl dL_law_210 dL_law_211 ?_
    refine arg_ld hx hb hl 1 5 rfl rfl 2 hi hL hSc hbl hbA hS (by decide) rfl dL_law_212 dL_law_213 dL_law_215 rfl dL_law_216 dL_law_217 ?_
    refine arg_ld hx hb hl 1 5 rfl rfl 3 hi hL hSc hbl hbA hS (by decide) rfl dL_law_218 dL_law_219 dL_law_221 rfl dL_law_222 dL_law_223 ?_
    refine arg_ld hx hb hl 1 5 rfl rfl 4 hi hL hSc hbl hbA hS (by decide) rfl dL_law_224 dL_law_225 dL_law_227 rfl dL_law_228 dL_law_229 ?_
    refine arg_ld hx hb hl 1 5 rfl rfl 5 hi hL hSc hbl hbA hS (by decide) rfl dL_law_230 dL_law_231 dL_law_233 rfl dL_law_234 dL_law_235 ?_
    refine zcVi (ci := 4) (q0 := 0) (wf := fun (u : Nat → Nat → Int32) => wLM a g cI cZ cL B C E td oo u) ksMM ⟨hx, hb, hml, hown, hts⟩ (zwMM hP hD hS hA) hK (c_X4_bill_k l D cI cZ g H.size M n (xs (i + 1)) (xs (i + 2)) (xs (i + 3)) (xs (i + 4)) (xs (i + 5)) hM hn hk) (cwV 5 hts gL_law_X4_bill rfl rfl rfl (by decide +kernel) ⟨Nat.le_of_ble_eq_true rfl, Nat.le_of_ble_eq_true rfl⟩) rfl rfl (by decide) (fun _ => rfl) rfl hl.1 rfl (Nat.le_of_ble_eq_true rfl) dL_law_236 ⟨by show cells + 1 + 0 ≤ 1086; omega, by show slots + 6 + 0 ≤ 14466; omega⟩ (fun r u H locs hw hP hD hS => ?_)
    obtain ⟨rfl, rfl⟩ := hw
    refine lv_istore (lv' := [(6, .int (0)), (5, .int (nI (billK n (xs (i + 1)) (xs (i + 2)) (xs (i + 3)) (xs (i + 4)) (xs (i + 5))))), (0, .ref b), (1, .ref (a 0)), (2, .ref (g 0)), (3, .ref (a 26)), (4, .int (nI i))]) hx hb dL_law_239 hl (by decide) rfl (fun ls hl => ?_)
    refine lw_tail (tgt := 1547) hx hb hml hown hts hK3 hA hP hD hS ⟨by decide, by decide⟩ ⟨by show cells + 1 + 0 ≤ 1086; omega, by show slots + 6 + 0 ≤ 14466; omega⟩ hl (by rw [pt_s]) (fun z => absurd z hK5) dL_law_241 dL_law_242 dL_law_245 dL_law_247 dL_law_252 dL_law_254 dL_law_257 dL_law_258 dL_law_259 dL_law_260 dL_law_262 dL_law_263 dL_law_264 dL_law_269 (by decide) (fun H locs hP hD hS => ?_)
    exact W.widen (by omega) (by omega) (kk _ _ _ _ _ _ _ _ _ _ _ ⟨(rl_t (rl_0 h) (Nat.le_succ _)), hP, hD, hS, lv_sub hl [2, 3, 4, 5, 6] rfl⟩)
set_option maxHeartbeats 4000000 in
set_option maxRecDepth 100000 in
theorem lc_advance (F : LwF p l R s m args c D A cI cZ cL b L xs) (S : LwS s D A a g cI cZ cL b i tt n q B C E td oo M H locs ls) (hi : i + 6 ≤ L) (ht : tt ≤ 1000) (hcs : cells + 1 ≤ 1086 ∧ slots + 6 ≤ 14466)
    (kk : LwK p l e R s m args below meth c Q D A a g cI cZ cL b i tt cells slots) : W p l e R s m args below meth c H locs cells slots Q (F0 m 672 ls []) := by
  obtain ⟨hx, hb, hml, hown, hts, hK3, hA, hSc, hbl, hbA, hX, hZ, hfl, hL, rfl⟩ := F
  obtain ⟨h, hP, hD, hS, hl⟩ := S
  have hK : va_K D vwCl (tyl cI cZ) s := hK3.sub (tys' := tyl cI cZ) [0, 1] rfl
  have hB : B 11 0 = nI n := h.1.1.1
  have hM : M 2 0 = nI n := h.1.1.2.1
  have hn : n ≤ 40 := h.1.1.2.2.1
  have hC : C 8 0 = nI q := h.1.2.2.1.1
  have hMq : M 15 0 = nI q := h.1.2.2.1.2.1
  have hq : q ≤ 30 := h.1.2.2.1.2.2.1
  have hso : ∀ i j, i ≤ j → j < n → M 6 i ≤ M 6 j := h.1.1.2.2.2.2.2.2.2.1
  have hs0 : ∀ i, i < n → 0 ≤ M 6 i := fun i hi => leI.mpr (by rw [i0]; exact (h.1.1.2.2.2.2.2.2.1 i hi).2.2.2.2.2.2.2.2.2.1)
  refine lv_aload_n hx hb dL_law_672 rfl (lv_at hl 1 rfl) ?_
  refine arg_ld hx hb hl 0 4 rfl rfl 1 hi hL hSc hbl hbA hS (by decide) rfl dL_law_673 dL_law_674 dL_law_676 rfl dL_law_677 dL_law_678 ?_
  refine lv_aload_n hx hb dL_law_679 rfl (lv_at hl 3 rfl) ?_
  by_cases hk : ¬ ((xs (i + 1)) < 1 ∨ ¬ (xs (i + 1)) ≤ 100)
  · have k1 : ¬ (xs (i + 1)) < 1 := fun z => hk (Or.inl z)
    have k2 : (xs (i + 1)) ≤ 100 := Classical.not_not.mp fun z => hk (Or.inr z)
    have h1 := sim_adv h (by omega) k1 k2
    have h' := h1
    refine zcSL (wf := fun (_ : Unit) => wLM a g cI cZ cL B C E (td + (xs (i + 1))) (vp_updL oo 0 (td + (xs (i + 1))).toInt64) M) ksLL ⟨hx, hb, hml, hown, hts⟩ (zwLL hP hD hS hA) hK3 hX hZ (c_L_advance_0 l D cI cZ cL a H.size B C E td (xs (i + 1)) oo k1 k2) (vx_cwSW 3 hts gL_law_L_advance rfl rfl rfl (by decide +kernel) ⟨Nat.le_of_ble_eq_true rfl, Nat.le_of_ble_eq_true rfl⟩) (by decide) (fun _ => rfl) rfl hl.1 rfl (Nat.le_of_ble_eq_true rfl) dL_law_680 ⟨by show cells + 0 ≤ 1086; omega, by show slots + 0 ≤ 14466; omega⟩ (fun r u H locs hw hP hD hS => ?_)
    have hw : r = 0 := hw
    subst hw
    refine lv_istore (lv' := [(5, .int (0)), (0, .ref b), (1, .ref (a 0)), (2, .ref (g 0)), (3, .ref (a 26)), (4, .int (nI i))]) hx hb dL_law_683 hl (by decide) rfl (fun ls hl => ?_)
    refine lv_aload_n hx hb dL_law_685 rfl (lv_at hl 3 rfl) ?_
    refine arg_ld hx hb hl 1 5 rfl rfl 1 hi hL hSc hbl hbA hS (by decide) rfl dL_law_686 dL_law_687 dL_law_689 rfl dL_law_690 dL_law_691 ?_
    refine zcVi (ci := 4) (q0 := 0) (wf := fun (u : Nat → Nat → Int32) => wLM a g cI cZ cL B C E (td + (xs (i + 1))) (vp_updL oo 0 (td + (xs (i + 1))).toInt64) u) ksMM ⟨hx, hb, hml, hown, hts⟩ (zwMM hP hD hS hA) hK (c_X4_advance_0 l D cI cZ g H.size M (xs (i + 1)) k1 k2) (cwV 1 hts gL_law_X4_advance rfl rfl rfl (by decide +kernel) ⟨Nat.le_of_ble_eq_true rfl, Nat.le_of_ble_eq_true rfl⟩) rfl rfl (by decide) (fun _ => rfl) rfl hl.1 rfl (Nat.le_of_ble_eq_true rfl) dL_law_692 ⟨by show cells + 0 + 0 ≤ 1086; omega, by show slots + 0 + 0 ≤ 14466; omega⟩ (fun r u H locs hw hP hD hS => ?_)
    obtain ⟨rfl, rfl⟩ := hw
    refine lv_istore (lv' := [(6, .int ((M 1 0 + (xs (i + 1))))), (5, .int (0)), (0, .ref b), (1, .ref (a 0)), (2, .ref (g 0)), (3, .ref (a 26)), (4, .int (nI i))]) hx hb dL_law_695 hl (by decide) rfl (fun ls hl => ?_)
    refine lw_tail (tgt := 1547) hx hb hml hown hts hK3 hA hP hD hS ⟨by decide, by decide⟩ ⟨by show cells + 0 + 0 ≤ 1086; omega, by show slots + 0 + 0 ≤ 14466; omega⟩ hl (by simp [pt_at]) (fun _ => congrArg Int32.toInt64 (by rw [h.1.1.2.2.2.1])) dL_law_697 dL_law_698 dL_law_701 dL_law_703 dL_law_708 dL_law_710 dL_law_713 dL_law_714 dL_law_715 dL_law_716 dL_law_718 dL_law_719 dL_law_720 dL_law_725 (by decide) (fun H locs hP hD hS => ?_)
    exact W.widen (by omega) (by omega) (kk _ _ _ _ _ _ _ _ _ _ _ ⟨h', hP, hD, hS, lv_sub hl [2, 3, 4, 5, 6] rfl⟩)
  · refine zcSL (wf := fun (_ : Unit) => wLM a g cI cZ cL B C E td oo M) ksLL ⟨hx, hb, hml, hown, hts⟩ (zwLL hP hD hS hA) hK3 hX hZ (c_L_advance_k l hfl D cI cZ cL a H.size B C E td (xs (i + 1)) oo (Classical.not_not.mp hk)) (vx_cwSW 3 hts gL_law_L_advance rfl rfl rfl (by decide +kernel) ⟨Nat.le_of_ble_eq_true rfl, Nat.le_of_ble_eq_true rfl⟩) (by decide) (fun _ => rfl) rfl hl.1 rfl (Nat.le_of_ble_eq_true rfl) dL_law_680 ⟨hcs.1, hcs.2⟩ (fun r u H locs hw hP hD hS => ?_)
    have hw : r = 1 := hw
    subst hw
    refine lv_istore (lv' := [(5, .int (1)), (0, .ref b), (1, .ref (a 0)), (2, .ref (g 0)), (3, .ref (a 26)), (4, .int (nI i))]) hx hb dL_law_683 hl (by decide) rfl (fun ls hl => ?_)
    refine lv_aload_n hx hb dL_law_685 rfl (lv_at hl 3 rfl) ?_
    refine arg_ld hx hb hl 1 5 rfl rfl 1 hi hL hSc hbl hbA hS (by decide) rfl dL_law_686 dL_law_687 dL_law_689 rfl dL_law_690 dL_law_691 ?_
    refine zcVi (ci := 4) (q0 := 0) (wf := fun (u : Nat → Nat → Int32) => wLM a g cI cZ cL B C E td oo u) ksMM ⟨hx, hb, hml, hown, hts⟩ (zwMM hP hD hS hA) hK (c_X4_advance_k l D cI cZ g H.size M (xs (i + 1)) (Classical.not_not.mp hk)) (cwV 1 hts gL_law_X4_advance rfl rfl rfl (by decide +kernel) ⟨Nat.le_of_ble_eq_true rfl, Nat.le_of_ble_eq_true rfl⟩) rfl rfl (by decide) (fun _ => rfl) rfl hl.1 rfl (Nat.le_of_ble_eq_true rfl) dL_law_692 ⟨by show cells + 1 + 0 ≤ 1086; omega, by show slots + 6 + 0 ≤ 14466; omega⟩ (fun r u H locs hw hP hD hS => ?_)
    obtain ⟨rfl, rfl⟩ := hw
    refine lv_istore (lv' := [(6, .int (0)), (5, .int (1)), (0, .ref b), (1, .ref (a 0)), (2, .ref (g 0)), (3, .ref (a 26)), (4, .int (nI i))]) hx hb dL_law_695 hl (by decide) rfl (fun ls hl => ?_)
    refine lw_tail (tgt := 1547) hx hb hml hown hts hK3 hA hP hD hS ⟨by decide, by decide⟩ ⟨by show cells + 1 + 0 ≤ 1086; omega, by show slots + 6 + 0 ≤ 14466; omega⟩ hl (by simp [pt_at]) (fun z => absurd z (by decide)) dL_law_697 dL_law_698 dL_law_701 dL_law_703 dL_law_708 dL_law_710 dL_law_713 dL_law_714 dL_law_715 dL_law_716 dL_law_718 dL_law_719 dL_law_720 dL_law_725 (by decide) (fun H locs hP hD hS => ?_)
    exact W.widen (by omega) (by omega) (kk _ _ _ _ _ _ _ _ _ _ _ ⟨(rl_t (rl_0 h) (Nat.le_succ _)), hP, hD, hS, lv_sub hl [2, 3, 4, 5, 6] rfl⟩)
set_option maxHeartbeats 4000000 in
set_option maxRecDepth 100000 in
theorem lc_open (F : LwF p l R s m args c D A cI cZ cL b L xs) (S : LwS s D A a g cI cZ cL b i tt n q B C E td oo M H locs ls) (hi : i + 6 ≤ L) (ht : tt ≤ 1000) (hcs : cells + 1 ≤ 1086 ∧ slots + 6 ≤ 14466)
    (kk : LwK p l e R s m args below meth c Q D A a g cI cZ cL b i tt cells slots) : W p l e R s m args below meth c H locs cells slots Q (F0 m 741 ls []) := by
  obtain ⟨hx, hb, hml, hown, hts, hK3, hA, hSc, hbl, hbA, hX, hZ, hfl, hL, rfl⟩ := F
  obtain ⟨h, hP, hD, hS, hl⟩ := S
  have hK : va_K D vwCl (tyl cI cZ) s := hK3.sub (tys' := tyl cI cZ) [0, 1] rfl
  have hB : B 11 0 = nI n := h.1.1.1
  have hM : M 2 0 = nI n := h.1.1.2.1
  have hn : n ≤ 40 := h.1.1.2.2.1
  have hC : C 8 0 = nI q := h.1.2.2.1.1
  have hMq : M 15 0 = nI q := h.1.2.2.1.2.1
  have hq : q ≤ 30 := h.1.2.2.1.2.2.1
  have hso : ∀ i j, i ≤ j → j < n → M 6 i ≤ M 6 j := h.1.1.2.2.2.2.2.2.2.1
  have hs0 : ∀ i, i < n → 0 ≤ M 6 i := fun i hi => leI.mpr (by rw [i0]; exact (h.1.1.2.2.2.2.2.2.1 i hi).2.2.2.2.2.2.2.2.2.1)
  refine lv_aload_n hx hb dL_law_741 rfl (lv_at hl 1 rfl) ?_
  refine arg_ld hx hb hl 0 4 rfl rfl 1 hi hL hSc hbl hbA hS (by decide) rfl dL_law_742 dL_law_743 dL_law_745 rfl dL_law_746 dL_law_747 ?_
  refine lv_aload_n hx hb dL_law_748 rfl (lv_at hl 3 rfl) ?_
  by_cases hk : ¬ ((xs (i + 1)) < 0 ∨ ¬ (xs (i + 1)) < B 11 0)
  · obtain ⟨rc, hrc, e1⟩ := bix h.1 hk
    have h1 := rl_0 (x := 0) h
    have h' := rl_t (tt' := tt + 1) h1 (Nat.le_succ _)
    rw [e1]
    refine zcSL (wf := fun (_ : Unit) => wLM a g cI cZ cL B C E td (vp_updL oo 0 (opn B rc).toInt64) M) ksLL ⟨hx, hb, hml, hown, hts⟩ (zwLL hP hD hS hA) hK3 hX hZ (c_L_open_0 l D cI cZ cL a H.size B C E td n rc oo hB hn hrc) (vx_cwSW 3 hts gL_law_L_open rfl rfl rfl (by decide +kernel) ⟨Nat.le_of_ble_eq_true rfl, Nat.le_of_ble_eq_true rfl⟩) (by decide) (fun _ => rfl) rfl hl.1 rfl (Nat.le_of_ble_eq_true rfl) dL_law_749 ⟨by show cells + 0 ≤ 1086; omega, by show slots + 0 ≤ 14466; omega⟩ (fun r u H locs hw hP hD hS => ?_)
    have hw : r = 0 := hw
    subst hw
    refine lv_istore (lv' := [(5, .int (0)), (0, .ref b), (1, .ref (a 0)), (2, .ref (g 0)), (3, .ref (a 26)), (4, .int (nI i))]) hx hb dL_law_752 hl (by decide) rfl (fun ls hl => ?_)
    refine lv_aload_n hx hb dL_law_754 rfl (lv_at hl 3 rfl) ?_
    refine arg_ld hx hb hl 1 5 rfl rfl 1 hi hL hSc hbl hbA hS (by decide) rfl dL_law_755 dL_law_756 dL_law_758 rfl dL_law_759 dL_law_760 ?_
    rw [e1]
    refine zcVi (ci := 4) (q0 := 0) (wf := fun (u : Nat → Nat → Int32) => wLM a g cI cZ cL B C E td (vp_updL oo 0 (opn B rc).toInt64) u) ksMM ⟨hx, hb, hml, hown, hts⟩ (zwMM hP hD hS hA) hK (c_X4_open_0 l D cI cZ g H.size M n rc hM hn hrc) (cwV 1 hts gL_law_X4_open rfl rfl rfl (by decide +kernel) ⟨Nat.le_of_ble_eq_true rfl, Nat.le_of_ble_eq_true rfl⟩) rfl rfl (by decide) (fun _ => rfl) rfl hl.1 rfl (Nat.le_of_ble_eq_true rfl) dL_law_761 ⟨by show cells + 0 + 0 ≤ 1086; omega, by show slots + 0 + 0 ≤ 14466; omega⟩ (fun r u H locs hw hP hD hS => ?_)
    obtain ⟨rfl, rfl⟩ := hw
    refine lv_istore (lv' := [(6, .int ((mopn M rc))), (5, .int (0)), (0, .ref b), (1, .ref (a 0)), (2, .ref (g 0)), (3, .ref (a 26)), (4, .int (nI i))]) hx hb dL_law_764 hl (by decide) rfl (fun ls hl => ?_)
    refine lw_tail (tgt := 1547) hx hb hml hown hts hK3 hA hP hD hS ⟨by decide, by decide⟩ ⟨by show cells + 0 + 0 ≤ 1086; omega, by show slots + 0 + 0 ≤ 14466; omega⟩ hl pt_s (fun _ => congrArg Int32.toInt64 (opn_I h.1.1 h.1.2.1 hrc).2.1) dL_law_766 dL_law_767 dL_law_770 dL_law_772 dL_law_777 dL_law_779 dL_law_782 dL_law_783 dL_law_784 dL_law_785 dL_law_787 dL_law_788 dL_law_789 dL_law_794 (by decide) (fun H locs hP hD hS => ?_)
    exact W.widen (by omega) (by omega) (kk _ _ _ _ _ _ _ _ _ _ _ ⟨h', hP, hD, hS, lv_sub hl [2, 3, 4, 5, 6] rfl⟩)
  · refine zcSL (wf := fun (_ : Unit) => wLM a g cI cZ cL B C E td oo M) ksLL ⟨hx, hb, hml, hown, hts⟩ (zwLL hP hD hS hA) hK3 hX hZ (c_L_open_k l hfl D cI cZ cL a H.size B C E td (xs (i + 1)) oo (Classical.not_not.mp hk)) (vx_cwSW 3 hts gL_law_L_open rfl rfl rfl (by decide +kernel) ⟨Nat.le_of_ble_eq_true rfl, Nat.le_of_ble_eq_true rfl⟩) (by decide) (fun _ => rfl) rfl hl.1 rfl (Nat.le_of_ble_eq_true rfl) dL_law_749 ⟨hcs.1, hcs.2⟩ (fun r u H locs hw hP hD hS => ?_)
    have hw : r = 1 := hw
    subst hw
    refine lv_istore (lv' := [(5, .int (1)), (0, .ref b), (1, .ref (a 0)), (2, .ref (g 0)), (3, .ref (a 26)), (4, .int (nI i))]) hx hb dL_law_752 hl (by decide) rfl (fun ls hl => ?_)
    refine lv_aload_n hx hb dL_law_754 rfl (lv_at hl 3 rfl) ?_
    refine arg_ld hx hb hl 1 5 rfl rfl 1 hi hL hSc hbl hbA hS (by decide) rfl dL_law_755 dL_law_756 dL_law_758 rfl dL_law_759 dL_law_760 ?_
    refine zcVi (ci := 4) (q0 := 0) (wf := fun (u : Nat → Nat → Int32) => wLM a g cI cZ cL B C E td oo u) ksMM ⟨hx, hb, hml, hown, hts⟩ (zwMM hP hD hS hA) hK (c_X4_open_k l D cI cZ g H.size M n (xs (i + 1)) hM hn (nix hB hk)) (cwV 1 hts gL_law_X4_open rfl rfl rfl (by decide +kernel) ⟨Nat.le_of_ble_eq_true rfl, Nat.le_of_ble_eq_true rfl⟩) rfl rfl (by decide) (fun _ => rfl) rfl hl.1 rfl (Nat.le_of_ble_eq_true rfl) dL_law_761 ⟨by show cells + 1 + 0 ≤ 1086; omega, by show slots + 6 + 0 ≤ 14466; omega⟩ (fun r u H locs hw hP hD hS => ?_)
    obtain ⟨rfl, rfl⟩ := hw
    refine lv_istore (lv' := [(6, .int (0)), (5, .int (1)), (0, .ref b), (1, .ref (a 0)), (2, .ref (g 0)), (3, .ref (a 26)), (4, .int (nI i))]) hx hb dL_law_764 hl (by decide) rfl (fun ls hl => ?_)
    refine lw_tail (tgt := 1547) hx hb hml hown hts hK3 hA hP hD hS ⟨by decide, by decide⟩ ⟨by show cells + 1 + 0 ≤ 1086; omega, by show slots + 6 + 0 ≤ 14466; omega⟩ hl (by simp [pt_at]) (fun z => absurd z (by decide)) dL_law_766 dL_law_767 dL_law_770 dL_law_772 dL_law_777 dL_law_779 dL_law_782 dL_law_783 dL_law_784 dL_law_785 dL_law_787 dL_law_788 dL_law_789 dL_law_794 (by decide) (fun H locs hP hD hS => ?_)
    exact W.widen (by omega) (by omega) (kk _ _ _ _ _ _ _ _ _ _ _ ⟨(rl_t (rl_0 h) (Nat.le_succ _)), hP, hD, hS, lv_sub hl [2, 3, 4, 5, 6] rfl⟩)
set_option maxHeartbeats 4000000 in
set_option maxRecDepth 100000 in
theorem lc_due (F : LwF p l R s m args c D A cI cZ cL b L xs) (S : LwS s D A a g cI cZ cL b i tt n q B C E td oo M H locs ls) (hi : i + 6 ≤ L) (ht : tt ≤ 1000) (hcs : cells + 1 ≤ 1086 ∧ slots + 6 ≤ 14466)
    (kk : LwK p l e R s m args below meth c Q D A a g cI cZ cL b i tt cells slots) : W p l e R s m args below meth c H locs cells slots Q (F0 m 797 ls []) := by
  obtain ⟨hx, hb, hml, hown, hts, hK3, hA, hSc, hbl, hbA, hX, hZ, hfl, hL, rfl⟩ := F
  obtain ⟨h, hP, hD, hS, hl⟩ := S
  have hK : va_K D vwCl (tyl cI cZ) s := hK3.sub (tys' := tyl cI cZ) [0, 1] rfl
  have hB : B 11 0 = nI n := h.1.1.1
  have hM : M 2 0 = nI n := h.1.1.2.1
  have hn : n ≤ 40 := h.1.1.2.2.1
  have hC : C 8 0 = nI q := h.1.2.2.1.1
  have hMq : M 15 0 = nI q := h.1.2.2.1.2.1
  have hq : q ≤ 30 := h.1.2.2.1.2.2.1
  have hso : ∀ i j, i ≤ j → j < n → M 6 i ≤ M 6 j := h.1.1.2.2.2.2.2.2.2.1
  have hs0 : ∀ i, i < n → 0 ≤ M 6 i := fun i hi => leI.mpr (by rw [i0]; exact (h.1.1.2.2.2.2.2.2.1 i hi).2.2.2.2.2.2.2.2.2.1)
  refine lv_aload_n hx hb dL_law_797 rfl (lv_at hl 1 rfl) ?_
  refine arg_ld hx hb hl 0 4 rfl rfl 1 hi hL hSc hbl hbA hS (by decide) rfl dL_law_798 dL_law_799 dL_law_801 rfl dL_law_802 dL_law_803 ?_
  refine lv_aload_n hx hb dL_law_804 rfl (lv_at hl 3 rfl) ?_
  by_cases hk : ¬ ((xs (i + 1)) < 0 ∨ ¬ (xs (i + 1)) < B 11 0)
  · obtain ⟨rc, hrc, e1⟩ := bix h.1 hk
    have h1 := rl_0 (x := 0) h
    have h' := rl_t (tt' := tt + 1) h1 (Nat.le_succ _)
    rw [e1]
    refine zcSL (wf := fun (_ : Unit) => wLM a g cI cZ cL B C E td (vp_updL oo 0 (dueN B rc td).toInt64) M) ksLL ⟨hx, hb, hml, hown, hts⟩ (zwLL hP hD hS hA) hK3 hX hZ (c_L_due_0 l D cI cZ cL a H.size B C E td n rc oo hB hn hrc) (vx_cwSW 3 hts gL_law_L_due rfl rfl rfl (by decide +kernel) ⟨Nat.le_of_ble_eq_true rfl, Nat.le_of_ble_eq_true rfl⟩) (by decide) (fun _ => rfl) rfl hl.1 rfl (Nat.le_of_ble_eq_true rfl) dL_law_805 ⟨by show cells + 0 ≤ 1086; omega, by show slots + 0 ≤ 14466; omega⟩ (fun r u H locs hw hP hD hS => ?_)
    have hw : r = 0 := hw
    subst hw
    refine lv_istore (lv' := [(5, .int (0)), (0, .ref b), (1, .ref (a 0)), (2, .ref (g 0)), (3, .ref (a 26)), (4, .int (nI i))]) hx hb dL_law_808 hl (by decide) rfl (fun ls hl => ?_)
    refine lv_aload_n hx hb dL_law_810 rfl (lv_at hl 3 rfl) ?_
    refine arg_ld hx hb hl 1 5 rfl rfl 1 hi hL hSc hbl hbA hS (by decide) rfl dL_law_811 dL_law_812 dL_law_814 rfl dL_law_815 dL_law_816 ?_
    rw [e1]
    refine zcVi (ci := 4) (q0 := 0) (wf := fun (u : Nat → Nat → Int32) => wLM a g cI cZ cL B C E td (vp_updL oo 0 (dueN B rc td).toInt64) u) ksMM ⟨hx, hb, hml, hown, hts⟩ (zwMM hP hD hS hA) hK (c_X4_due_0 l D cI cZ g H.size M n rc hM hn hrc) (cwV 1 hts gL_law_X4_due rfl rfl rfl (by decide +kernel) ⟨Nat.le_of_ble_eq_true rfl, Nat.le_of_ble_eq_true rfl⟩) rfl rfl (by decide) (fun _ => rfl) rfl hl.1 rfl (Nat.le_of_ble_eq_true rfl) dL_law_817 ⟨by show cells + 0 + 0 ≤ 1086; omega, by show slots + 0 + 0 ≤ 14466; omega⟩ (fun r u H locs hw hP hD hS => ?_)
    obtain ⟨rfl, rfl⟩ := hw
    refine lv_istore (lv' := [(6, .int ((mdue M rc))), (5, .int (0)), (0, .ref b), (1, .ref (a 0)), (2, .ref (g 0)), (3, .ref (a 26)), (4, .int (nI i))]) hx hb dL_law_820 hl (by decide) rfl (fun ls hl => ?_)
    refine lw_tail (tgt := 1547) hx hb hml hown hts hK3 hA hP hD hS ⟨by decide, by decide⟩ ⟨by show cells + 0 + 0 ≤ 1086; omega, by show slots + 0 + 0 ≤ 14466; omega⟩ hl pt_s (fun _ => congrArg Int32.toInt64 (due_I h.1.1 h.1.2.1 hrc).1) dL_law_822 dL_law_823 dL_law_826 dL_law_828 dL_law_833 dL_law_835 dL_law_838 dL_law_839 dL_law_840 dL_law_841 dL_law_843 dL_law_844 dL_law_845 dL_law_850 (by decide) (fun H locs hP hD hS => ?_)
    exact W.widen (by omega) (by omega) (kk _ _ _ _ _ _ _ _ _ _ _ ⟨h', hP, hD, hS, lv_sub hl [2, 3, 4, 5, 6] rfl⟩)
  · refine zcSL (wf := fun (_ : Unit) => wLM a g cI cZ cL B C E td oo M) ksLL ⟨hx, hb, hml, hown, hts⟩ (zwLL hP hD hS hA) hK3 hX hZ (c_L_due_k l hfl D cI cZ cL a H.size B C E td (xs (i + 1)) oo (Classical.not_not.mp hk)) (vx_cwSW 3 hts gL_law_L_due rfl rfl rfl (by decide +kernel) ⟨Nat.le_of_ble_eq_true rfl, Nat.le_of_ble_eq_true rfl⟩) (by decide) (fun _ => rfl) rfl hl.1 rfl (Nat.le_of_ble_eq_true rfl) dL_law_805 ⟨hcs.1, hcs.2⟩ (fun r u H locs hw hP hD hS => ?_)
    have hw : r = 1 := hw
    subst hw
    refine lv_istore (lv' := [(5, .int (1)), (0, .ref b), (1, .ref (a 0)), (2, .ref (g 0)), (3, .ref (a 26)), (4, .int (nI i))]) hx hb dL_law_808 hl (by decide) rfl (fun ls hl => ?_)
    refine lv_aload_n hx hb dL_law_810 rfl (lv_at hl 3 rfl) ?_
    refine arg_ld hx hb hl 1 5 rfl rfl 1 hi hL hSc hbl hbA hS (by decide) rfl dL_law_811 dL_law_812 dL_law_814 rfl dL_law_815 dL_law_816 ?_
    refine zcVi (ci := 4) (q0 := 0) (wf := fun (u : Nat → Nat → Int32) => wLM a g cI cZ cL B C E td oo u) ksMM ⟨hx, hb, hml, hown, hts⟩ (zwMM hP hD hS hA) hK (c_X4_due_k l D cI cZ g H.size M n (xs (i + 1)) hM hn (nix hB hk)) (cwV 1 hts gL_law_X4_due rfl rfl rfl (by decide +kernel) ⟨Nat.le_of_ble_eq_true rfl, Nat.le_of_ble_eq_true rfl⟩) rfl rfl (by decide) (fun _ => rfl) rfl hl.1 rfl (Nat.le_of_ble_eq_true rfl) dL_law_817 ⟨by show cells + 1 + 0 ≤ 1086; omega, by show slots + 6 + 0 ≤ 14466; omega⟩ (fun r u H locs hw hP hD hS => ?_)
    obtain ⟨rfl, rfl⟩ := hw
    refine lv_istore (lv' := [(6, .int (0)), (5, .int (1)), (0, .ref b), (1, .ref (a 0)), (2, .ref (g 0)), (3, .ref (a 26)), (4, .int (nI i))]) hx hb dL_law_820 hl (by decide) rfl (fun ls hl => ?_)
    refine lw_tail (tgt := 1547) hx hb hml hown hts hK3 hA hP hD hS ⟨by decide, by decide⟩ ⟨by show cells + 1 + 0 ≤ 1086; omega, by show slots + 6 + 0 ≤ 14466; omega⟩ hl (by simp [pt_at]) (fun z => absurd z (by decide)) dL_law_822 dL_law_823 dL_law_826 dL_law_828 dL_law_833 dL_law_835 dL_law_838 dL_law_839 dL_law_840 dL_law_841 dL_law_843 dL_law_844 dL_law_845 dL_law_850 (by decide) (fun H locs hP hD hS => ?_)
    exact W.widen (by omega) (by omega) (kk _ _ _ _ _ _ _ _ _ _ _ ⟨(rl_t (rl_0 h) (Nat.le_succ _)), hP, hD, hS, lv_sub hl [2, 3, 4, 5, 6] rfl⟩)
set_option maxHeartbeats 4000000 in
set_option maxRecDepth 100000 in
theorem lc_paid (F : LwF p l R s m args c D A cI cZ cL b L xs) (S : LwS s D A a g cI cZ cL b i tt n q B C E td oo M H locs ls) (hi : i + 6 ≤ L) (ht : tt ≤ 1000) (hcs : cells + 1 ≤ 1086 ∧ slots + 6 ≤ 14466)
    (kk : LwK p l e R s m args below meth c Q D A a g cI cZ cL b i tt cells slots) : W p l e R s m args below meth c H locs cells slots Q (F0 m 853 ls []) := by
  obtain ⟨hx, hb, hml, hown, hts, hK3, hA, hSc, hbl, hbA, hX, hZ, hfl, hL, rfl⟩ := F
  obtain ⟨h, hP, hD, hS, hl⟩ := S
  have hK : va_K D vwCl (tyl cI cZ) s := hK3.sub (tys' := tyl cI cZ) [0, 1] rfl
  have hB : B 11 0 = nI n := h.1.1.1
  have hM : M 2 0 = nI n := h.1.1.2.1
  have hn : n ≤ 40 := h.1.1.2.2.1
  have hC : C 8 0 = nI q := h.1.2.2.1.1
  have hMq : M 15 0 = nI q := h.1.2.2.1.2.1
  have hq : q ≤ 30 := h.1.2.2.1.2.2.1
  have hso : ∀ i j, i ≤ j → j < n → M 6 i ≤ M 6 j := h.1.1.2.2.2.2.2.2.2.1
  have hs0 : ∀ i, i < n → 0 ≤ M 6 i := fun i hi => leI.mpr (by rw [i0]; exact (h.1.1.2.2.2.2.2.2.1 i hi).2.2.2.2.2.2.2.2.2.1)
  refine lv_aload_n hx hb dL_law_853 rfl (lv_at hl 1 rfl) ?_
  refine arg_ld hx hb hl 0 4 rfl rfl 1 hi hL hSc hbl hbA hS (by decide) rfl dL_law_854 dL_law_855 dL_law_857 rfl dL_law_858 dL_law_859 ?_
  refine lv_aload_n hx hb dL_law_860 rfl (lv_at hl 3 rfl) ?_
  by_cases hk : ¬ ((xs (i + 1)) < 0 ∨ ¬ (xs (i + 1)) < B 11 0)
  · obtain ⟨rc, hrc, e1⟩ := bix h.1 hk
    have h1 := rl_0 (x := 0) h
    have h' := rl_t (tt' := tt + 1) h1 (Nat.le_succ _)
    rw [e1]
    refine zcSL (wf := fun (_ : Unit) => wLM a g cI cZ cL B C E td (vp_updL oo 0 (B 5 rc).toInt64) M) ksLL ⟨hx, hb, hml, hown, hts⟩ (zwLL hP hD hS hA) hK3 hX hZ (c_L_paid_0 l D cI cZ cL a H.size B C E td n rc oo hB hn hrc) (vx_cwSW 3 hts gL_law_L_paid rfl rfl rfl (by decide +kernel) ⟨Nat.le_of_ble_eq_true rfl, Nat.le_of_ble_eq_true rfl⟩) (by decide) (fun _ => rfl) rfl hl.1 rfl (Nat.le_of_ble_eq_true rfl) dL_law_861 ⟨by show cells + 0 ≤ 1086; omega, by show slots + 0 ≤ 14466; omega⟩ (fun r u H locs hw hP hD hS => ?_)
    have hw : r = 0 := hw
    subst hw
    refine lv_istore (lv' := [(5, .int (0)), (0, .ref b), (1, .ref (a 0)), (2, .ref (g 0)), (3, .ref (a 26)), (4, .int (nI i))]) hx hb dL_law_864 hl (by decide) rfl (fun ls hl => ?_)
    refine lv_aload_n hx hb dL_law_866 rfl (lv_at hl 3 rfl) ?_
    refine arg_ld hx hb hl 1 5 rfl rfl 1 hi hL hSc hbl hbA hS (by decide) rfl dL_law_867 dL_law_868 dL_law_870 rfl dL_law_871 dL_law_872 ?_
    rw [e1]
    refine zcVi (ci := 4) (q0 := 0) (wf := fun (u : Nat → Nat → Int32) => wLM a g cI cZ cL B C E td (vp_updL oo 0 (B 5 rc).toInt64) u) ksMM ⟨hx, hb, hml, hown, hts⟩ (zwMM hP hD hS hA) hK (c_X4_paid_0 l D cI cZ g H.size M n rc hM hn hrc) (cwV 1 hts gL_law_X4_paid rfl rfl rfl (by decide +kernel) ⟨Nat.le_of_ble_eq_true rfl, Nat.le_of_ble_eq_true rfl⟩) rfl rfl (by decide) (fun _ => rfl) rfl hl.1 rfl (Nat.le_of_ble_eq_true rfl) dL_law_873 ⟨by show cells + 0 + 0 ≤ 1086; omega, by show slots + 0 + 0 ≤ 14466; omega⟩ (fun r u H locs hw hP hD hS => ?_)
    obtain ⟨rfl, rfl⟩ := hw
    refine lv_istore (lv' := [(6, .int ((M 9 rc))), (5, .int (0)), (0, .ref b), (1, .ref (a 0)), (2, .ref (g 0)), (3, .ref (a 26)), (4, .int (nI i))]) hx hb dL_law_876 hl (by decide) rfl (fun ls hl => ?_)
    refine lw_tail (tgt := 1547) hx hb hml hown hts hK3 hA hP hD hS ⟨by decide, by decide⟩ ⟨by show cells + 0 + 0 ≤ 1086; omega, by show slots + 0 + 0 ≤ 14466; omega⟩ hl pt_s (fun _ => congrArg Int32.toInt64 (rd_b h.1 hrc).1) dL_law_878 dL_law_879 dL_law_882 dL_law_884 dL_law_889 dL_law_891 dL_law_894 dL_law_895 dL_law_896 dL_law_897 dL_law_899 dL_law_900 dL_law_901 dL_law_906 (by decide) (fun H locs hP hD hS => ?_)
    exact W.widen (by omega) (by omega) (kk _ _ _ _ _ _ _ _ _ _ _ ⟨h', hP, hD, hS, lv_sub hl [2, 3, 4, 5, 6] rfl⟩)
  · refine zcSL (wf := fun (_ : Unit) => wLM a g cI cZ cL B C E td oo M) ksLL ⟨hx, hb, hml, hown, hts⟩ (zwLL hP hD hS hA) hK3 hX hZ (c_L_paid_k l hfl D cI cZ cL a H.size B C E td (xs (i + 1)) oo (Classical.not_not.mp hk)) (vx_cwSW 3 hts gL_law_L_paid rfl rfl rfl (by decide +kernel) ⟨Nat.le_of_ble_eq_true rfl, Nat.le_of_ble_eq_true rfl⟩) (by decide) (fun _ => rfl) rfl hl.1 rfl (Nat.le_of_ble_eq_true rfl) dL_law_861 ⟨hcs.1, hcs.2⟩ (fun r u H locs hw hP hD hS => ?_)
    have hw : r = 1 := hw
    subst hw
    refine lv_istore (lv' := [(5, .int (1)), (0, .ref b), (1, .ref (a 0)), (2, .ref (g 0)), (3, .ref (a 26)), (4, .int (nI i))]) hx hb dL_law_864 hl (by decide) rfl (fun ls hl => ?_)
    refine lv_aload_n hx hb dL_law_866 rfl (lv_at hl 3 rfl) ?_
    refine arg_ld hx hb hl 1 5 rfl rfl 1 hi hL hSc hbl hbA hS (by decide) rfl dL_law_867 dL_law_868 dL_law_870 rfl dL_law_871 dL_law_872 ?_
    refine zcVi (ci := 4) (q0 := 0) (wf := fun (u : Nat → Nat → Int32) => wLM a g cI cZ cL B C E td oo u) ksMM ⟨hx, hb, hml, hown, hts⟩ (zwMM hP hD hS hA) hK (c_X4_paid_k l D cI cZ g H.size M n (xs (i + 1)) hM hn (nix hB hk)) (cwV 1 hts gL_law_X4_paid rfl rfl rfl (by decide +kernel) ⟨Nat.le_of_ble_eq_true rfl, Nat.le_of_ble_eq_true rfl⟩) rfl rfl (by decide) (fun _ => rfl) rfl hl.1 rfl (Nat.le_of_ble_eq_true rfl) dL_law_873 ⟨by show cells + 1 + 0 ≤ 1086; omega, by show slots + 6 + 0 ≤ 14466; omega⟩ (fun r u H locs hw hP hD hS => ?_)
    obtain ⟨rfl, rfl⟩ := hw
    refine lv_istore (lv' := [(6, .int (0)), (5, .int (1)), (0, .ref b), (1, .ref (a 0)), (2, .ref (g 0)), (3, .ref (a 26)), (4, .int (nI i))]) hx hb dL_law_876 hl (by decide) rfl (fun ls hl => ?_)
    refine lw_tail (tgt := 1547) hx hb hml hown hts hK3 hA hP hD hS ⟨by decide, by decide⟩ ⟨by show cells + 1 + 0 ≤ 1086; omega, by show slots + 6 + 0 ≤ 14466; omega⟩ hl (by simp [pt_at]) (fun z => absurd z (by decide)) dL_law_878 dL_law_879 dL_law_882 dL_law_884 dL_law_889 dL_law_891 dL_law_894 dL_law_895 dL_law_896 dL_law_897 dL_law_899 dL_law_900 dL_law_901 dL_law_906 (by decide) (fun H locs hP hD hS => ?_)
    exact W.widen (by omega) (by omega) (kk _ _ _ _ _ _ _ _ _ _ _ ⟨(rl_t (rl_0 h) (Nat.le_succ _)), hP, hD, hS, lv_sub hl [2, 3, 4, 5, 6] rfl⟩)
set_option maxHeartbeats 4000000 in
set_option maxRecDepth 100000 in
theorem lc_taken (F : LwF p l R s m args c D A cI cZ cL b L xs) (S : LwS s D A a g cI cZ cL b i tt n q B C E td oo M H locs ls) (hi : i + 6 ≤ L) (ht : tt ≤ 1000) (hcs : cells + 1 ≤ 1086 ∧ slots + 6 ≤ 14466)
    (kk : LwK p l e R s m args below meth c Q D A a g cI cZ cL b i tt cells slots) : W p l e R s m args below meth c H locs cells slots Q (F0 m 909 ls []) := by
  obtain ⟨hx, hb, hml, hown, hts, hK3, hA, hSc, hbl, hbA, hX, hZ, hfl, hL, rfl⟩ := F
  obtain ⟨h, hP, hD, hS, hl⟩ := S
  have hK : va_K D vwCl (tyl cI cZ) s := hK3.sub (tys' := tyl cI cZ) [0, 1] rfl
  have hB : B 11 0 = nI n := h.1.1.1
  have hM : M 2 0 = nI n := h.1.1.2.1
  have hn : n ≤ 40 := h.1.1.2.2.1
  have hC : C 8 0 = nI q := h.1.2.2.1.1
  have hMq : M 15 0 = nI q := h.1.2.2.1.2.1
  have hq : q ≤ 30 := h.1.2.2.1.2.2.1
  have hso : ∀ i j, i ≤ j → j < n → M 6 i ≤ M 6 j := h.1.1.2.2.2.2.2.2.2.1
  have hs0 : ∀ i, i < n → 0 ≤ M 6 i := fun i hi => leI.mpr (by rw [i0]; exact (h.1.1.2.2.2.2.2.2.1 i hi).2.2.2.2.2.2.2.2.2.1)
  refine lv_aload_n hx hb dL_law_909 rfl (lv_at hl 1 rfl) ?_
  refine arg_ld hx hb hl 0 4 rfl rfl 1 hi hL hSc hbl hbA hS (by decide) rfl dL_law_910 dL_law_911 dL_law_913 rfl dL_law_914 dL_law_915 ?_
  refine lv_aload_n hx hb dL_law_916 rfl (lv_at hl 3 rfl) ?_
  by_cases hk : ¬ ((xs (i + 1)) < 0 ∨ ¬ (xs (i + 1)) < B 11 0)
  · obtain ⟨rc, hrc, e1⟩ := bix h.1 hk
    have h1 := rl_0 (x := 0) h
    have h' := rl_t (tt' := tt + 1) h1 (Nat.le_succ _)
    rw [e1]
    refine zcSL (wf := fun (_ : Unit) => wLM a g cI cZ cL B C E td (vp_updL oo 0 (B 6 rc).toInt64) M) ksLL ⟨hx, hb, hml, hown, hts⟩ (zwLL hP hD hS hA) hK3 hX hZ (c_L_taken_0 l D cI cZ cL a H.size B C E td n rc oo hB hn hrc) (vx_cwSW 3 hts gL_law_L_taken rfl rfl rfl (by decide +kernel) ⟨Nat.le_of_ble_eq_true rfl, Nat.le_of_ble_eq_true rfl⟩) (by decide) (fun _ => rfl) rfl hl.1 rfl (Nat.le_of_ble_eq_true rfl) dL_law_917 ⟨by show cells + 0 ≤ 1086; omega, by show slots + 0 ≤ 14466; omega⟩ (fun r u H locs hw hP hD hS => ?_)
    have hw : r = 0 := hw
    subst hw
    refine lv_istore (lv' := [(5, .int (0)), (0, .ref b), (1, .ref (a 0)), (2, .ref (g 0)), (3, .ref (a 26)), (4, .int (nI i))]) hx hb dL_law_920 hl (by decide) rfl (fun ls hl => ?_)
    refine lv_aload_n hx hb dL_law_922 rfl (lv_at hl 3 rfl) ?_
    refine arg_ld hx hb hl 1 5 rfl rfl 1 hi hL hSc hbl hbA hS (by decide) rfl dL_law_923 dL_law_924 dL_law_926 rfl dL_law_927 dL_law_928 ?_
    rw [e1]
    refine zcVi (ci := 4) (q0 := 0) (wf := fun (u : Nat → Nat → Int32) => wLM a g cI cZ cL B C E td (vp_updL oo 0 (B 6 rc).toInt64) u) ksMM ⟨hx, hb, hml, hown, hts⟩ (zwMM hP hD hS hA) hK (c_X4_taken_0 l D cI cZ g H.size M n rc hM hn hrc) (cwV 1 hts gL_law_X4_taken rfl rfl rfl (by decide +kernel) ⟨Nat.le_of_ble_eq_true rfl, Nat.le_of_ble_eq_true rfl⟩) rfl rfl (by decide) (fun _ => rfl) rfl hl.1 rfl (Nat.le_of_ble_eq_true rfl) dL_law_929 ⟨by show cells + 0 + 0 ≤ 1086; omega, by show slots + 0 + 0 ≤ 14466; omega⟩ (fun r u H locs hw hP hD hS => ?_)
    obtain ⟨rfl, rfl⟩ := hw
    refine lv_istore (lv' := [(6, .int ((M 10 rc))), (5, .int (0)), (0, .ref b), (1, .ref (a 0)), (2, .ref (g 0)), (3, .ref (a 26)), (4, .int (nI i))]) hx hb dL_law_932 hl (by decide) rfl (fun ls hl => ?_)
    refine lw_tail (tgt := 1547) hx hb hml hown hts hK3 hA hP hD hS ⟨by decide, by decide⟩ ⟨by show cells + 0 + 0 ≤ 1086; omega, by show slots + 0 + 0 ≤ 14466; omega⟩ hl pt_s (fun _ => congrArg Int32.toInt64 (rd_b h.1 hrc).2.1) dL_law_934 dL_law_935 dL_law_938 dL_law_940 dL_law_945 dL_law_947 dL_law_950 dL_law_951 dL_law_952 dL_law_953 dL_law_955 dL_law_956 dL_law_957 dL_law_962 (by decide) (fun H locs hP hD hS => ?_)
    exact W.widen (by omega) (by omega) (kk _ _ _ _ _ _ _ _ _ _ _ ⟨h', hP, hD, hS, lv_sub hl [2, 3, 4, 5, 6] rfl⟩)
  · refine zcSL (wf := fun (_ : Unit) => wLM a g cI cZ cL B C E td oo M) ksLL ⟨hx, hb, hml, hown, hts⟩ (zwLL hP hD hS hA) hK3 hX hZ (c_L_taken_k l hfl D cI cZ cL a H.size B C E td (xs (i + 1)) oo (Classical.not_not.mp hk)) (vx_cwSW 3 hts gL_law_L_taken rfl rfl rfl (by decide +kernel) ⟨Nat.le_of_ble_eq_true rfl, Nat.le_of_ble_eq_true rfl⟩) (by decide) (fun _ => rfl) rfl hl.1 rfl (Nat.le_of_ble_eq_true rfl) dL_law_917 ⟨hcs.1, hcs.2⟩ (fun r u H locs hw hP hD hS => ?_)
    have hw : r = 1 := hw
    subst hw
    refine lv_istore (lv' := [(5, .int (1)), (0, .ref b), (1, .ref (a 0)), (2, .ref (g 0)), (3, .ref (a 26)), (4, .int (nI i))]) hx hb dL_law_920 hl (by decide) rfl (fun ls hl => ?_)
    refine lv_aload_n hx hb dL_law_922 rfl (lv_at hl 3 rfl) ?_
    refine arg_ld hx hb hl 1 5 rfl rfl 1 hi hL hSc hbl hbA hS (by decide) rfl dL_law_923 dL_law_924 dL_law_926 rfl dL_law_927 dL_law_928 ?_
    refine zcVi (ci := 4) (q0 := 0) (wf := fun (u : Nat → Nat → Int32) => wLM a g cI cZ cL B C E td oo u) ksMM ⟨hx, hb, hml, hown, hts⟩ (zwMM hP hD hS hA) hK (c_X4_taken_k l D cI cZ g H.size M n (xs (i + 1)) hM hn (nix hB hk)) (cwV 1 hts gL_law_X4_taken rfl rfl rfl (by decide +kernel) ⟨Nat.le_of_ble_eq_true rfl, Nat.le_of_ble_eq_true rfl⟩) rfl rfl (by decide) (fun _ => rfl) rfl hl.1 rfl (Nat.le_of_ble_eq_true rfl) dL_law_929 ⟨by show cells + 1 + 0 ≤ 1086; omega, by show slots + 6 + 0 ≤ 14466; omega⟩ (fun r u H locs hw hP hD hS => ?_)
    obtain ⟨rfl, rfl⟩ := hw
    refine lv_istore (lv' := [(6, .int (0)), (5, .int (1)), (0, .ref b), (1, .ref (a 0)), (2, .ref (g 0)), (3, .ref (a 26)), (4, .int (nI i))]) hx hb dL_law_932 hl (by decide) rfl (fun ls hl => ?_)
    refine lw_tail (tgt := 1547) hx hb hml hown hts hK3 hA hP hD hS ⟨by decide, by decide⟩ ⟨by show cells + 1 + 0 ≤ 1086; omega, by show slots + 6 + 0 ≤ 14466; omega⟩ hl (by simp [pt_at]) (fun z => absurd z (by decide)) dL_law_934 dL_law_935 dL_law_938 dL_law_940 dL_law_945 dL_law_947 dL_law_950 dL_law_951 dL_law_952 dL_law_953 dL_law_955 dL_law_956 dL_law_957 dL_law_962 (by decide) (fun H locs hP hD hS => ?_)
    exact W.widen (by omega) (by omega) (kk _ _ _ _ _ _ _ _ _ _ _ ⟨(rl_t (rl_0 h) (Nat.le_succ _)), hP, hD, hS, lv_sub hl [2, 3, 4, 5, 6] rfl⟩)
set_option maxHeartbeats 4000000 in
set_option maxRecDepth 100000 in
theorem lc_disputed (F : LwF p l R s m args c D A cI cZ cL b L xs) (S : LwS s D A a g cI cZ cL b i tt n q B C E td oo M H locs ls) (hi : i + 6 ≤ L) (ht : tt ≤ 1000) (hcs : cells + 1 ≤ 1086 ∧ slots + 6 ≤ 14466)
    (kk : LwK p l e R s m args below meth c Q D A a g cI cZ cL b i tt cells slots) : W p l e R s m args below meth c H locs cells slots Q (F0 m 965 ls []) := by
  obtain ⟨hx, hb, hml, hown, hts, hK3, hA, hSc, hbl, hbA, hX, hZ, hfl, hL, rfl⟩ := F
  obtain ⟨h, hP, hD, hS, hl⟩ := S
  have hK : va_K D vwCl (tyl cI cZ) s := hK3.sub (tys' := tyl cI cZ) [0, 1] rfl
  have hB : B 11 0 = nI n := h.1.1.1
  have hM : M 2 0 = nI n := h.1.1.2.1
  have hn : n ≤ 40 := h.1.1.2.2.1
  have hC : C 8 0 = nI q := h.1.2.2.1.1
  have hMq : M 15 0 = nI q := h.1.2.2.1.2.1
  have hq : q ≤ 30 := h.1.2.2.1.2.2.1
  have hso : ∀ i j, i ≤ j → j < n → M 6 i ≤ M 6 j := h.1.1.2.2.2.2.2.2.2.1
  have hs0 : ∀ i, i < n → 0 ≤ M 6 i := fun i hi => leI.mpr (by rw [i0]; exact (h.1.1.2.2.2.2.2.2.1 i hi).2.2.2.2.2.2.2.2.2.1)
  refine lv_aload_n hx hb dL_law_965 rfl (lv_at hl 1 rfl) ?_
  refine arg_ld hx hb hl 0 4 rfl rfl 1 hi hL hSc hbl hbA hS (by decide) rfl dL_law_966 dL_law_967 dL_law_969 rfl dL_law_970 dL_law_971 ?_
  refine lv_aload_n hx hb dL_law_972 rfl (lv_at hl 3 rfl) ?_
  by_cases hk : ¬ ((xs (i + 1)) < 0 ∨ ¬ (xs (i + 1)) < B 11 0)
  · obtain ⟨rc, hrc, e1⟩ := bix h.1 hk
    have h1 := rl_0 (x := 0) h
    have h' := rl_t (tt' := tt + 1) h1 (Nat.le_succ _)
    rw [e1]
    refine zcSL (wf := fun (_ : Unit) => wLM a g cI cZ cL B C E td (vp_updL oo 0 (B 8 rc).toInt64) M) ksLL ⟨hx, hb, hml, hown, hts⟩ (zwLL hP hD hS hA) hK3 hX hZ (c_L_disputed_0 l D cI cZ cL a H.size B C E td n rc oo hB hn hrc) (vx_cwSW 3 hts gL_law_L_disputed rfl rfl rfl (by decide +kernel) ⟨Nat.le_of_ble_eq_true rfl, Nat.le_of_ble_eq_true rfl⟩) (by decide) (fun _ => rfl) rfl hl.1 rfl (Nat.le_of_ble_eq_true rfl) dL_law_973 ⟨by show cells + 0 ≤ 1086; omega, by show slots + 0 ≤ 14466; omega⟩ (fun r u H locs hw hP hD hS => ?_)
    have hw : r = 0 := hw
    subst hw
    refine lv_istore (lv' := [(5, .int (0)), (0, .ref b), (1, .ref (a 0)), (2, .ref (g 0)), (3, .ref (a 26)), (4, .int (nI i))]) hx hb dL_law_976 hl (by decide) rfl (fun ls hl => ?_)
    refine lv_aload_n hx hb dL_law_978 rfl (lv_at hl 3 rfl) ?_
    refine arg_ld hx hb hl 1 5 rfl rfl 1 hi hL hSc hbl hbA hS (by decide) rfl dL_law_979 dL_law_980 dL_law_982 rfl dL_law_983 dL_law_984 ?_
    rw [e1]
    refine zcVi (ci := 4) (q0 := 0) (wf := fun (u : Nat → Nat → Int32) => wLM a g cI cZ cL B C E td (vp_updL oo 0 (B 8 rc).toInt64) u) ksMM ⟨hx, hb, hml, hown, hts⟩ (zwMM hP hD hS hA) hK (c_X4_disputed_0 l D cI cZ g H.size M n rc hM hn hrc) (cwV 1 hts gL_law_X4_disputed rfl rfl rfl (by decide +kernel) ⟨Nat.le_of_ble_eq_true rfl, Nat.le_of_ble_eq_true rfl⟩) rfl rfl (by decide) (fun _ => rfl) rfl hl.1 rfl (Nat.le_of_ble_eq_true rfl) dL_law_985 ⟨by show cells + 0 + 0 ≤ 1086; omega, by show slots + 0 + 0 ≤ 14466; omega⟩ (fun r u H locs hw hP hD hS => ?_)
    obtain ⟨rfl, rfl⟩ := hw
    refine lv_istore (lv' := [(6, .int ((M 12 rc))), (5, .int (0)), (0, .ref b), (1, .ref (a 0)), (2, .ref (g 0)), (3, .ref (a 26)), (4, .int (nI i))]) hx hb dL_law_988 hl (by decide) rfl (fun ls hl => ?_)
    refine lw_tail (tgt := 1547) hx hb hml hown hts hK3 hA hP hD hS ⟨by decide, by decide⟩ ⟨by show cells + 0 + 0 ≤ 1086; omega, by show slots + 0 + 0 ≤ 14466; omega⟩ hl pt_s (fun _ => congrArg Int32.toInt64 (rd_b h.1 hrc).2.2.1) dL_law_990 dL_law_991 dL_law_994 dL_law_996 dL_law_1001 dL_law_1003 dL_law_1006 dL_law_1007 dL_law_1008 dL_law_1009 dL_law_1011 dL_law_1012 dL_law_1013 dL_law_1018 (by decide) (fun H locs hP hD hS => ?_)
    exact W.widen (by omega) (by omega) (kk _ _ _ _ _ _ _ _ _ _ _ ⟨h', hP, hD, hS, lv_sub hl [2, 3, 4, 5, 6] rfl⟩)
  · refine zcSL (wf := fun (_ : Unit) => wLM a g cI cZ cL B C E td oo M) ksLL ⟨hx, hb, hml, hown, hts⟩ (zwLL hP hD hS hA) hK3 hX hZ (c_L_disputed_k l hfl D cI cZ cL a H.size B C E td (xs (i + 1)) oo (Classical.not_not.mp hk)) (vx_cwSW 3 hts gL_law_L_disputed rfl rfl rfl (by decide +kernel) ⟨Nat.le_of_ble_eq_true rfl, Nat.le_of_ble_eq_true rfl⟩) (by decide) (fun _ => rfl) rfl hl.1 rfl (Nat.le_of_ble_eq_true rfl) dL_law_973 ⟨hcs.1, hcs.2⟩ (fun r u H locs hw hP hD hS => ?_)
    have hw : r = 1 := hw
    subst hw
    refine lv_istore (lv' := [(5, .int (1)), (0, .ref b), (1, .ref (a 0)), (2, .ref (g 0)), (3, .ref (a 26)), (4, .int (nI i))]) hx hb dL_law_976 hl (by decide) rfl (fun ls hl => ?_)
    refine lv_aload_n hx hb dL_law_978 rfl (lv_at hl 3 rfl) ?_
    refine arg_ld hx hb hl 1 5 rfl rfl 1 hi hL hSc hbl hbA hS (by decide) rfl dL_law_979 dL_law_980 dL_law_982 rfl dL_law_983 dL_law_984 ?_
    refine zcVi (ci := 4) (q0 := 0) (wf := fun (u : Nat → Nat → Int32) => wLM a g cI cZ cL B C E td oo u) ksMM ⟨hx, hb, hml, hown, hts⟩ (zwMM hP hD hS hA) hK (c_X4_disputed_k l D cI cZ g H.size M n (xs (i + 1)) hM hn (nix hB hk)) (cwV 1 hts gL_law_X4_disputed rfl rfl rfl (by decide +kernel) ⟨Nat.le_of_ble_eq_true rfl, Nat.le_of_ble_eq_true rfl⟩) rfl rfl (by decide) (fun _ => rfl) rfl hl.1 rfl (Nat.le_of_ble_eq_true rfl) dL_law_985 ⟨by show cells + 1 + 0 ≤ 1086; omega, by show slots + 6 + 0 ≤ 14466; omega⟩ (fun r u H locs hw hP hD hS => ?_)
    obtain ⟨rfl, rfl⟩ := hw
    refine lv_istore (lv' := [(6, .int (0)), (5, .int (1)), (0, .ref b), (1, .ref (a 0)), (2, .ref (g 0)), (3, .ref (a 26)), (4, .int (nI i))]) hx hb dL_law_988 hl (by decide) rfl (fun ls hl => ?_)
    refine lw_tail (tgt := 1547) hx hb hml hown hts hK3 hA hP hD hS ⟨by decide, by decide⟩ ⟨by show cells + 1 + 0 ≤ 1086; omega, by show slots + 6 + 0 ≤ 14466; omega⟩ hl (by simp [pt_at]) (fun z => absurd z (by decide)) dL_law_990 dL_law_991 dL_law_994 dL_law_996 dL_law_1001 dL_law_1003 dL_law_1006 dL_law_1007 dL_law_1008 dL_law_1009 dL_law_1011 dL_law_1012 dL_law_1013 dL_law_1018 (by decide) (fun H locs hP hD hS => ?_)
    exact W.widen (by omega) (by omega) (kk _ _ _ _ _ _ _ _ _ _ _ ⟨(rl_t (rl_0 h) (Nat.le_succ _)), hP, hD, hS, lv_sub hl [2, 3, 4, 5, 6] rfl⟩)
set_option maxHeartbeats 4000000 in
set_option maxRecDepth 100000 in
theorem lc_writtenOff (F : LwF p l R s m args c D A cI cZ cL b L xs) (S : LwS s D A a g cI cZ cL b i tt n q B C E td oo M H locs ls) (hi : i + 6 ≤ L) (ht : tt ≤ 1000) (hcs : cells + 1 ≤ 1086 ∧ slots + 6 ≤ 14466)
    (kk : LwK p l e R s m args below meth c Q D A a g cI cZ cL b i tt cells slots) : W p l e R s m args below meth c H locs cells slots Q (F0 m 1021 ls []) := by
  obtain ⟨hx, hb, hml, hown, hts, hK3, hA, hSc, hbl, hbA, hX, hZ, hfl, hL, rfl⟩ := F
  obtain ⟨h, hP, hD, hS, hl⟩ := S
  have hK : va_K D vwCl (tyl cI cZ) s := hK3.sub (tys' := tyl cI cZ) [0, 1] rfl
  have hB : B 11 0 = nI n := h.1.1.1
  have hM : M 2 0 = nI n := h.1.1.2.1
  have hn : n ≤ 40 := h.1.1.2.2.1
  have hC : C 8 0 = nI q := h.1.2.2.1.1
  have hMq : M 15 0 = nI q := h.1.2.2.1.2.1
  have hq : q ≤ 30 := h.1.2.2.1.2.2.1
  have hso : ∀ i j, i ≤ j → j < n → M 6 i ≤ M 6 j := h.1.1.2.2.2.2.2.2.2.1
  have hs0 : ∀ i, i < n → 0 ≤ M 6 i := fun i hi => leI.mpr (by rw [i0]; exact (h.1.1.2.2.2.2.2.2.1 i hi).2.2.2.2.2.2.2.2.2.1)
  refine lv_aload_n hx hb dL_law_1021 rfl (lv_at hl 1 rfl) ?_
  refine arg_ld hx hb hl 0 4 rfl rfl 1 hi hL hSc hbl hbA hS (by decide) rfl dL_law_1022 dL_law_1023 dL_law_1025 rfl dL_law_1026 dL_law_1027 ?_
  refine lv_aload_n hx hb dL_law_1028 rfl (lv_at hl 3 rfl) ?_
  by_cases hk : ¬ ((xs (i + 1)) < 0 ∨ ¬ (xs (i + 1)) < B 11 0)
  · obtain ⟨rc, hrc, e1⟩ := bix h.1 hk
    have h1 := rl_0 (x := 0) h
    have h' := rl_t (tt' := tt + 1) h1 (Nat.le_succ _)
    rw [e1]
    refine zcSL (wf := fun (_ : Unit) => wLM a g cI cZ cL B C E td (vp_updL oo 0 (B 10 rc).toInt64) M) ksLL ⟨hx, hb, hml, hown, hts⟩ (zwLL hP hD hS hA) hK3 hX hZ (c_L_writtenOff_0 l D cI cZ cL a H.size B C E td n rc oo hB hn hrc) (vx_cwSW 3 hts gL_law_L_writtenOff rfl rfl rfl (by decide +kernel) ⟨Nat.le_of_ble_eq_true rfl, Nat.le_of_ble_eq_true rfl⟩) (by decide) (fun _ => rfl) rfl hl.1 rfl (Nat.le_of_ble_eq_true rfl) dL_law_1029 ⟨by show cells + 0 ≤ 1086; omega, by show slots + 0 ≤ 14466; omega⟩ (fun r u H locs hw hP hD hS => ?_)
    have hw : r = 0 := hw
    subst hw
    refine lv_istore (lv' := [(5, .int (0)), (0, .ref b), (1, .ref (a 0)), (2, .ref (g 0)), (3, .ref (a 26)), (4, .int (nI i))]) hx hb dL_law_1032 hl (by decide) rfl (fun ls hl => ?_)
    refine lv_aload_n hx hb dL_law_1034 rfl (lv_at hl 3 rfl) ?_
    refine arg_ld hx hb hl 1 5 rfl rfl 1 hi hL hSc hbl hbA hS (by decide) rfl dL_law_1035 dL_law_1036 dL_law_1038 rfl dL_law_1039 dL_law_1040 ?_
    rw [e1]
    refine zcVi (ci := 4) (q0 := 0) (wf := fun (u : Nat → Nat → Int32) => wLM a g cI cZ cL B C E td (vp_updL oo 0 (B 10 rc).toInt64) u) ksMM ⟨hx, hb, hml, hown, hts⟩ (zwMM hP hD hS hA) hK (c_X4_writtenOff_0 l D cI cZ g H.size M n rc hM hn hrc) (cwV 1 hts gL_law_X4_writtenOff rfl rfl rfl (by decide +kernel) ⟨Nat.le_of_ble_eq_true rfl, Nat.le_of_ble_eq_true rfl⟩) rfl rfl (by decide) (fun _ => rfl) rfl hl.1 rfl (Nat.le_of_ble_eq_true rfl) dL_law_1041 ⟨by show cells + 0 + 0 ≤ 1086; omega, by show slots + 0 + 0 ≤ 14466; omega⟩ (fun r u H locs hw hP hD hS => ?_)
    obtain ⟨rfl, rfl⟩ := hw
    refine lv_istore (lv' := [(6, .int ((M 14 rc))), (5, .int (0)), (0, .ref b), (1, .ref (a 0)), (2, .ref (g 0)), (3, .ref (a 26)), (4, .int (nI i))]) hx hb dL_law_1044 hl (by decide) rfl (fun ls hl => ?_)
    refine lw_tail (tgt := 1547) hx hb hml hown hts hK3 hA hP hD hS ⟨by decide, by decide⟩ ⟨by show cells + 0 + 0 ≤ 1086; omega, by show slots + 0 + 0 ≤ 14466; omega⟩ hl pt_s (fun _ => congrArg Int32.toInt64 (rd_b h.1 hrc).2.2.2) dL_law_1046 dL_law_1047 dL_law_1050 dL_law_1052 dL_law_1057 dL_law_1059 dL_law_1062 dL_law_1063 dL_law_1064 dL_law_1065 dL_law_1067 dL_law_1068 dL_law_1069 dL_law_1074 (by decide) (fun H locs hP hD hS => ?_)
    exact W.widen (by omega) (by omega) (kk _ _ _ _ _ _ _ _ _ _ _ ⟨h', hP, hD, hS, lv_sub hl [2, 3, 4, 5, 6] rfl⟩)
  · refine zcSL (wf := fun (_ : Unit) => wLM a g cI cZ cL B C E td oo M) ksLL ⟨hx, hb, hml, hown, hts⟩ (zwLL hP hD hS hA) hK3 hX hZ (c_L_writtenOff_k l hfl D cI cZ cL a H.size B C E td (xs (i + 1)) oo (Classical.not_not.mp hk)) (vx_cwSW 3 hts gL_law_L_writtenOff rfl rfl rfl (by decide +kernel) ⟨Nat.le_of_ble_eq_true rfl, Nat.le_of_ble_eq_true rfl⟩) (by decide) (fun _ => rfl) rfl hl.1 rfl (Nat.le_of_ble_eq_true rfl) dL_law_1029 ⟨hcs.1, hcs.2⟩ (fun r u H locs hw hP hD hS => ?_)
    have hw : r = 1 := hw
    subst hw
    refine lv_istore (lv' := [(5, .int (1)), (0, .ref b), (1, .ref (a 0)), (2, .ref (g 0)), (3, .ref (a 26)), (4, .int (nI i))]) hx hb dL_law_1032 hl (by decide) rfl (fun ls hl => ?_)
    refine lv_aload_n hx hb dL_law_1034 rfl (lv_at hl 3 rfl) ?_
    refine arg_ld hx hb hl 1 5 rfl rfl 1 hi hL hSc hbl hbA hS (by decide) rfl dL_law_1035 dL_law_1036 dL_law_1038 rfl dL_law_1039 dL_law_1040 ?_
    refine zcVi (ci := 4) (q0 := 0) (wf := fun (u : Nat → Nat → Int32) => wLM a g cI cZ cL B C E td oo u) ksMM ⟨hx, hb, hml, hown, hts⟩ (zwMM hP hD hS hA) hK (c_X4_writtenOff_k l D cI cZ g H.size M n (xs (i + 1)) hM hn (nix hB hk)) (cwV 1 hts gL_law_X4_writtenOff rfl rfl rfl (by decide +kernel) ⟨Nat.le_of_ble_eq_true rfl, Nat.le_of_ble_eq_true rfl⟩) rfl rfl (by decide) (fun _ => rfl) rfl hl.1 rfl (Nat.le_of_ble_eq_true rfl) dL_law_1041 ⟨by show cells + 1 + 0 ≤ 1086; omega, by show slots + 6 + 0 ≤ 14466; omega⟩ (fun r u H locs hw hP hD hS => ?_)
    obtain ⟨rfl, rfl⟩ := hw
    refine lv_istore (lv' := [(6, .int (0)), (5, .int (1)), (0, .ref b), (1, .ref (a 0)), (2, .ref (g 0)), (3, .ref (a 26)), (4, .int (nI i))]) hx hb dL_law_1044 hl (by decide) rfl (fun ls hl => ?_)
    refine lw_tail (tgt := 1547) hx hb hml hown hts hK3 hA hP hD hS ⟨by decide, by decide⟩ ⟨by show cells + 1 + 0 ≤ 1086; omega, by show slots + 6 + 0 ≤ 14466; omega⟩ hl (by simp [pt_at]) (fun z => absurd z (by decide)) dL_law_1046 dL_law_1047 dL_law_1050 dL_law_1052 dL_law_1057 dL_law_1059 dL_law_1062 dL_law_1063 dL_law_1064 dL_law_1065 dL_law_1067 dL_law_1068 dL_law_1069 dL_law_1074 (by decide) (fun H locs hP hD hS => ?_)
    exact W.widen (by omega) (by omega) (kk _ _ _ _ _ _ _ _ _ _ _ ⟨(rl_t (rl_0 h) (Nat.le_succ _)), hP, hD, hS, lv_sub hl [2, 3, 4, 5, 6] rfl⟩)
set_option maxHeartbeats 4000000 in
set_option maxRecDepth 100000 in
theorem lc_openOf (F : LwF p l R s m args c D A cI cZ cL b L xs) (S : LwS s D A a g cI cZ cL b i tt n q B C E td oo M H locs ls) (hi : i + 6 ≤ L) (ht : tt ≤ 1000) (hcs : cells + 1 ≤ 1086 ∧ slots + 6 ≤ 14466)
    (kk : LwK p l e R s m args below meth c Q D A a g cI cZ cL b i tt cells slots) : W p l e R s m args below meth c H locs cells slots Q (F0 m 1077 ls []) := by
  obtain ⟨hx, hb, hml, hown, hts, hK3, hA, hSc, hbl, hbA, hX, hZ, hfl, hL, rfl⟩ := F
  obtain ⟨h, hP, hD, hS, hl⟩ := S
  have hK : va_K D vwCl (tyl cI cZ) s := hK3.sub (tys' := tyl cI cZ) [0, 1] rfl
  have hB : B 11 0 = nI n := h.1.1.1
  have hM : M 2 0 = nI n := h.1.1.2.1
  have hn : n ≤ 40 := h.1.1.2.2.1
  have hC : C 8 0 = nI q := h.1.2.2.1.1
  have hMq : M 15 0 = nI q := h.1.2.2.1.2.1
  have hq : q ≤ 30 := h.1.2.2.1.2.2.1
  have hso : ∀ i j, i ≤ j → j < n → M 6 i ≤ M 6 j := h.1.1.2.2.2.2.2.2.2.1
  have hs0 : ∀ i, i < n → 0 ≤ M 6 i := fun i hi => leI.mpr (by rw [i0]; exact (h.1.1.2.2.2.2.2.2.1 i hi).2.2.2.2.2.2.2.2.2.1)
  refine lv_aload_n hx hb dL_law_1077 rfl (lv_at hl 1 rfl) ?_
  refine arg_ld hx hb hl 0 4 rfl rfl 1 hi hL hSc hbl hbA hS (by decide) rfl dL_law_1078 dL_law_1079 dL_law_1081 rfl dL_law_1082 dL_law_1083 ?_
  refine lv_aload_n hx hb dL_law_1084 rfl (lv_at hl 3 rfl) ?_
  by_cases hk : ¬ ((xs (i + 1)) < 0 ∨ ¬ (xs (i + 1)) < 8)
  · have k1 : ¬ (xs (i + 1)) < 0 := fun z => hk (Or.inl z)
    have k2 : (xs (i + 1)) < 8 := Classical.not_not.mp fun z => hk (Or.inr z)
    have h1 := rl_0 (x := 0) h
    have h' := rl_t (tt' := tt + 1) h1 (Nat.le_succ _)
    refine zcSL (wf := fun (_ : Unit) => wLM a g cI cZ cL B C E td (vp_updL oo 0 (oof B (xs (i + 1)) n).toInt64) M) ksLL ⟨hx, hb, hml, hown, hts⟩ (zwLL hP hD hS hA) hK3 hX hZ (c_L_openOf_0 l D cI cZ cL a H.size B C E td n (xs (i + 1)) oo hB hn k1 k2) (vx_cwSW 3 hts gL_law_L_openOf rfl rfl rfl (by decide +kernel) ⟨Nat.le_of_ble_eq_true rfl, Nat.le_of_ble_eq_true rfl⟩) (by decide) (fun _ => rfl) rfl hl.1 rfl (Nat.le_of_ble_eq_true rfl) dL_law_1085 ⟨by show cells + 0 ≤ 1086; omega, by show slots + 0 ≤ 14466; omega⟩ (fun r u H locs hw hP hD hS => ?_)
    have hw : r = 0 := hw
    subst hw
    refine lv_istore (lv' := [(5, .int (0)), (0, .ref b), (1, .ref (a 0)), (2, .ref (g 0)), (3, .ref (a 26)), (4, .int (nI i))]) hx hb dL_law_1088 hl (by decide) rfl (fun ls hl => ?_)
    refine lv_aload_n hx hb dL_law_1090 rfl (lv_at hl 3 rfl) ?_
    refine arg_ld hx hb hl 1 5 rfl rfl 1 hi hL hSc hbl hbA hS (by decide) rfl dL_law_1091 dL_law_1092 dL_law_1094 rfl dL_law_1095 dL_law_1096 ?_
    refine zcVi (ci := 4) (q0 := 0) (wf := fun (u : Nat → Nat → Int32) => wLM a g cI cZ cL B C E td (vp_updL oo 0 (oof B (xs (i + 1)) n).toInt64) u) ksMM ⟨hx, hb, hml, hown, hts⟩ (zwMM hP hD hS hA) hK (c_X4_openOf_0 l D cI cZ g H.size M n (xs (i + 1)) hM hn ⟨k1, k2⟩) (cwV 1 hts gL_law_X4_openOf rfl rfl rfl (by decide +kernel) ⟨Nat.le_of_ble_eq_true rfl, Nat.le_of_ble_eq_true rfl⟩) rfl rfl (by decide) (fun _ => rfl) rfl hl.1 rfl (Nat.le_of_ble_eq_true rfl) dL_law_1097 ⟨by show cells + 0 + 0 ≤ 1086; omega, by show slots + 0 + 0 ≤ 14466; omega⟩ (fun r u H locs hw hP hD hS => ?_)
    obtain ⟨rfl, rfl⟩ := hw
    refine lv_istore (lv' := [(6, .int ((moo M (xs (i + 1)) n))), (5, .int (0)), (0, .ref b), (1, .ref (a 0)), (2, .ref (g 0)), (3, .ref (a 26)), (4, .int (nI i))]) hx hb dL_law_1100 hl (by decide) rfl (fun ls hl => ?_)
    refine lw_tail (tgt := 1547) hx hb hml hown hts hK3 hA hP hD hS ⟨by decide, by decide⟩ ⟨by show cells + 0 + 0 ≤ 1086; omega, by show slots + 0 + 0 ≤ 14466; omega⟩ hl pt_s (fun _ => congrArg Int32.toInt64 (rd_oof h.1 (Nat.le_refl _))) dL_law_1102 dL_law_1103 dL_law_1106 dL_law_1108 dL_law_1113 dL_law_1115 dL_law_1118 dL_law_1119 dL_law_1120 dL_law_1121 dL_law_1123 dL_law_1124 dL_law_1125 dL_law_1130 (by decide) (fun H locs hP hD hS => ?_)
    exact W.widen (by omega) (by omega) (kk _ _ _ _ _ _ _ _ _ _ _ ⟨h', hP, hD, hS, lv_sub hl [2, 3, 4, 5, 6] rfl⟩)
  · refine zcSL (wf := fun (_ : Unit) => wLM a g cI cZ cL B C E td oo M) ksLL ⟨hx, hb, hml, hown, hts⟩ (zwLL hP hD hS hA) hK3 hX hZ (c_L_openOf_k l hfl D cI cZ cL a H.size B C E td (xs (i + 1)) oo (Classical.not_not.mp hk)) (vx_cwSW 3 hts gL_law_L_openOf rfl rfl rfl (by decide +kernel) ⟨Nat.le_of_ble_eq_true rfl, Nat.le_of_ble_eq_true rfl⟩) (by decide) (fun _ => rfl) rfl hl.1 rfl (Nat.le_of_ble_eq_true rfl) dL_law_1085 ⟨hcs.1, hcs.2⟩ (fun r u H locs hw hP hD hS => ?_)
    have hw : r = 1 := hw
    subst hw
    refine lv_istore (lv' := [(5, .int (1)), (0, .ref b), (1, .ref (a 0)), (2, .ref (g 0)), (3, .ref (a 26)), (4, .int (nI i))]) hx hb dL_law_1088 hl (by decide) rfl (fun ls hl => ?_)
    refine lv_aload_n hx hb dL_law_1090 rfl (lv_at hl 3 rfl) ?_
    refine arg_ld hx hb hl 1 5 rfl rfl 1 hi hL hSc hbl hbA hS (by decide) rfl dL_law_1091 dL_law_1092 dL_law_1094 rfl dL_law_1095 dL_law_1096 ?_
    refine zcVi (ci := 4) (q0 := 0) (wf := fun (u : Nat → Nat → Int32) => wLM a g cI cZ cL B C E td oo u) ksMM ⟨hx, hb, hml, hown, hts⟩ (zwMM hP hD hS hA) hK (c_X4_openOf_k l D cI cZ g H.size M n (xs (i + 1)) hM hn (fun z => hk (fun w => w.elim z.1 (fun y => y z.2)))) (cwV 1 hts gL_law_X4_openOf rfl rfl rfl (by decide +kernel) ⟨Nat.le_of_ble_eq_true rfl, Nat.le_of_ble_eq_true rfl⟩) rfl rfl (by decide) (fun _ => rfl) rfl hl.1 rfl (Nat.le_of_ble_eq_true rfl) dL_law_1097 ⟨by show cells + 1 + 0 ≤ 1086; omega, by show slots + 6 + 0 ≤ 14466; omega⟩ (fun r u H locs hw hP hD hS => ?_)
    obtain ⟨rfl, rfl⟩ := hw
    refine lv_istore (lv' := [(6, .int (0)), (5, .int (1)), (0, .ref b), (1, .ref (a 0)), (2, .ref (g 0)), (3, .ref (a 26)), (4, .int (nI i))]) hx hb dL_law_1100 hl (by decide) rfl (fun ls hl => ?_)
    refine lw_tail (tgt := 1547) hx hb hml hown hts hK3 hA hP hD hS ⟨by decide, by decide⟩ ⟨by show cells + 1 + 0 ≤ 1086; omega, by show slots + 6 + 0 ≤ 14466; omega⟩ hl (by simp [pt_at]) (fun z => absurd z (by decide)) dL_law_1102 dL_law_1103 dL_law_1106 dL_law_1108 dL_law_1113 dL_law_1115 dL_law_1118 dL_law_1119 dL_law_1120 dL_law_1121 dL_law_1123 dL_law_1124 dL_law_1125 dL_law_1130 (by decide) (fun H locs hP hD hS => ?_)
    exact W.widen (by omega) (by omega) (kk _ _ _ _ _ _ _ _ _ _ _ ⟨(rl_t (rl_0 h) (Nat.le_succ _)), hP, hD, hS, lv_sub hl [2, 3, 4, 5, 6] rfl⟩)
set_option maxHeartbeats 4000000 in
set_option maxRecDepth 100000 in
theorem lc_customerOf (F : LwF p l R s m args c D A cI cZ cL b L xs) (S : LwS s D A a g cI cZ cL b i tt n q B C E td oo M H locs ls) (hi : i + 6 ≤ L) (ht : tt ≤ 1000) (hcs : cells + 1 ≤ 1086 ∧ slots + 6 ≤ 14466)
    (kk : LwK p l e R s m args below meth c Q D A a g cI cZ cL b i tt cells slots) : W p l e R s m args below meth c H locs cells slots Q (F0 m 1226 ls []) := by
  obtain ⟨hx, hb, hml, hown, hts, hK3, hA, hSc, hbl, hbA, hX, hZ, hfl, hL, rfl⟩ := F
  obtain ⟨h, hP, hD, hS, hl⟩ := S
  have hK : va_K D vwCl (tyl cI cZ) s := hK3.sub (tys' := tyl cI cZ) [0, 1] rfl
  have hB : B 11 0 = nI n := h.1.1.1
  have hM : M 2 0 = nI n := h.1.1.2.1
  have hn : n ≤ 40 := h.1.1.2.2.1
  have hC : C 8 0 = nI q := h.1.2.2.1.1
  have hMq : M 15 0 = nI q := h.1.2.2.1.2.1
  have hq : q ≤ 30 := h.1.2.2.1.2.2.1
  have hso : ∀ i j, i ≤ j → j < n → M 6 i ≤ M 6 j := h.1.1.2.2.2.2.2.2.2.1
  have hs0 : ∀ i, i < n → 0 ≤ M 6 i := fun i hi => leI.mpr (by rw [i0]; exact (h.1.1.2.2.2.2.2.2.1 i hi).2.2.2.2.2.2.2.2.2.1)
  refine lv_aload_n hx hb dL_law_1226 rfl (lv_at hl 1 rfl) ?_
  refine arg_ld hx hb hl 0 4 rfl rfl 1 hi hL hSc hbl hbA hS (by decide) rfl dL_law_1227 dL_law_1228 dL_law_1230 rfl dL_law_1231 dL_law_1232 ?_
  refine lv_aload_n hx hb dL_law_1233 rfl (lv_at hl 3 rfl) ?_
  by_cases hk : ¬ ((xs (i + 1)) < 0 ∨ ¬ (xs (i + 1)) < C 8 0)
  · obtain ⟨rc, hrc, e1, -⟩ := rk_ix h.1 hk
    have h1 := rl_0 (x := 0) h
    have h' := rl_t (tt' := tt + 1) h1 (Nat.le_succ _)
    rw [e1]
    refine zcSL (wf := fun (_ : Unit) => wLM a g cI cZ cL B C E td (vp_updL oo 0 (C 0 rc).toInt64) M) ksLL ⟨hx, hb, hml, hown, hts⟩ (zwLL hP hD hS hA) hK3 hX hZ (c_L_customerOf_0 l D cI cZ cL a H.size B C E td q rc oo hC hq hrc) (vx_cwSW 3 hts gL_law_L_customerOf rfl rfl rfl (by decide +kernel) ⟨Nat.le_of_ble_eq_true rfl, Nat.le_of_ble_eq_true rfl⟩) (by decide) (fun _ => rfl) rfl hl.1 rfl (Nat.le_of_ble_eq_true rfl) dL_law_1234 ⟨by show cells + 0 ≤ 1086; omega, by show slots + 0 ≤ 14466; omega⟩ (fun r u H locs hw hP hD hS => ?_)
    have hw : r = 0 := hw
    subst hw
    refine lv_istore (lv' := [(5, .int (0)), (0, .ref b), (1, .ref (a 0)), (2, .ref (g 0)), (3, .ref (a 26)), (4, .int (nI i))]) hx hb dL_law_1237 hl (by decide) rfl (fun ls hl => ?_)
    refine lv_aload_n hx hb dL_law_1239 rfl (lv_at hl 3 rfl) ?_
    refine arg_ld hx hb hl 1 5 rfl rfl 1 hi hL hSc hbl hbA hS (by decide) rfl dL_law_1240 dL_law_1241 dL_law_1243 rfl dL_law_1244 dL_law_1245 ?_
    rw [e1]
    refine zcVi (ci := 4) (q0 := 0) (wf := fun (u : Nat → Nat → Int32) => wLM a g cI cZ cL B C E td (vp_updL oo 0 (C 0 rc).toInt64) u) ksMM ⟨hx, hb, hml, hown, hts⟩ (zwMM hP hD hS hA) hK (c_X4_customerOf_0 l D cI cZ g H.size M q rc hMq hq hrc) (cwV 1 hts gL_law_X4_customerOf rfl rfl rfl (by decide +kernel) ⟨Nat.le_of_ble_eq_true rfl, Nat.le_of_ble_eq_true rfl⟩) rfl rfl (by decide) (fun _ => rfl) rfl hl.1 rfl (Nat.le_of_ble_eq_true rfl) dL_law_1246 ⟨by show cells + 0 + 0 ≤ 1086; omega, by show slots + 0 + 0 ≤ 14466; omega⟩ (fun r u H locs hw hP hD hS => ?_)
    obtain ⟨rfl, rfl⟩ := hw
    refine lv_istore (lv' := [(6, .int ((M 17 rc))), (5, .int (0)), (0, .ref b), (1, .ref (a 0)), (2, .ref (g 0)), (3, .ref (a 26)), (4, .int (nI i))]) hx hb dL_law_1249 hl (by decide) rfl (fun ls hl => ?_)
    refine lw_tail (tgt := 1547) hx hb hml hown hts hK3 hA hP hD hS ⟨by decide, by decide⟩ ⟨by show cells + 0 + 0 ≤ 1086; omega, by show slots + 0 + 0 ≤ 14466; omega⟩ hl pt_s (fun _ => congrArg Int32.toInt64 (rr_at h.1.2.2.1 hrc).1) dL_law_1251 dL_law_1252 dL_law_1255 dL_law_1257 dL_law_1262 dL_law_1264 dL_law_1267 dL_law_1268 dL_law_1269 dL_law_1270 dL_law_1272 dL_law_1273 dL_law_1274 dL_law_1279 (by decide) (fun H locs hP hD hS => ?_)
    exact W.widen (by omega) (by omega) (kk _ _ _ _ _ _ _ _ _ _ _ ⟨h', hP, hD, hS, lv_sub hl [2, 3, 4, 5, 6] rfl⟩)
  · refine zcSL (wf := fun (_ : Unit) => wLM a g cI cZ cL B C E td oo M) ksLL ⟨hx, hb, hml, hown, hts⟩ (zwLL hP hD hS hA) hK3 hX hZ (c_L_customerOf_k l hfl D cI cZ cL a H.size B C E td (xs (i + 1)) oo (Classical.not_not.mp hk)) (vx_cwSW 3 hts gL_law_L_customerOf rfl rfl rfl (by decide +kernel) ⟨Nat.le_of_ble_eq_true rfl, Nat.le_of_ble_eq_true rfl⟩) (by decide) (fun _ => rfl) rfl hl.1 rfl (Nat.le_of_ble_eq_true rfl) dL_law_1234 ⟨hcs.1, hcs.2⟩ (fun r u H locs hw hP hD hS => ?_)
    have hw : r = 1 := hw
    subst hw
    refine lv_istore (lv' := [(5, .int (1)), (0, .ref b), (1, .ref (a 0)), (2, .ref (g 0)), (3, .ref (a 26)), (4, .int (nI i))]) hx hb dL_law_1237 hl (by decide) rfl (fun ls hl => ?_)
    refine lv_aload_n hx hb dL_law_1239 rfl (lv_at hl 3 rfl) ?_
    refine arg_ld hx hb hl 1 5 rfl rfl 1 hi hL hSc hbl hbA hS (by decide) rfl dL_law_1240 dL_law_1241 dL_law_1243 rfl dL_law_1244 dL_law_1245 ?_
    refine zcVi (ci := 4) (q0 := 0) (wf := fun (u : Nat → Nat → Int32) => wLM a g cI cZ cL B C E td oo u) ksMM ⟨hx, hb, hml, hown, hts⟩ (zwMM hP hD hS hA) hK (c_X4_customerOf_k l D cI cZ g H.size M q (xs (i + 1)) hMq hq (nix hC hk)) (cwV 1 hts gL_law_X4_customerOf rfl rfl rfl (by decide +kernel) ⟨Nat.le_of_ble_eq_true rfl, Nat.le_of_ble_eq_true rfl⟩) rfl rfl (by decide) (fun _ => rfl) rfl hl.1 rfl (Nat.le_of_ble_eq_true rfl) dL_law_1246 ⟨by show cells + 1 + 0 ≤ 1086; omega, by show slots + 6 + 0 ≤ 14466; omega⟩ (fun r u H locs hw hP hD hS => ?_)
    obtain ⟨rfl, rfl⟩ := hw
    refine lv_istore (lv' := [(6, .int (0)), (5, .int (1)), (0, .ref b), (1, .ref (a 0)), (2, .ref (g 0)), (3, .ref (a 26)), (4, .int (nI i))]) hx hb dL_law_1249 hl (by decide) rfl (fun ls hl => ?_)
    refine lw_tail (tgt := 1547) hx hb hml hown hts hK3 hA hP hD hS ⟨by decide, by decide⟩ ⟨by show cells + 1 + 0 ≤ 1086; omega, by show slots + 6 + 0 ≤ 14466; omega⟩ hl (by simp [pt_at]) (fun z => absurd z (by decide)) dL_law_1251 dL_law_1252 dL_law_1255 dL_law_1257 dL_law_1262 dL_law_1264 dL_law_1267 dL_law_1268 dL_law_1269 dL_law_1270 dL_law_1272 dL_law_1273 dL_law_1274 dL_law_1279 (by decide) (fun H locs hP hD hS => ?_)
    exact W.widen (by omega) (by omega) (kk _ _ _ _ _ _ _ _ _ _ _ ⟨(rl_t (rl_0 h) (Nat.le_succ _)), hP, hD, hS, lv_sub hl [2, 3, 4, 5, 6] rfl⟩)
set_option maxHeartbeats 4000000 in
set_option maxRecDepth 100000 in
theorem lc_unapplied (F : LwF p l R s m args c D A cI cZ cL b L xs) (S : LwS s D A a g cI cZ cL b i tt n q B C E td oo M H locs ls) (hi : i + 6 ≤ L) (ht : tt ≤ 1000) (hcs : cells + 1 ≤ 1086 ∧ slots + 6 ≤ 14466)
    (kk : LwK p l e R s m args below meth c Q D A a g cI cZ cL b i tt cells slots) : W p l e R s m args below meth c H locs cells slots Q (F0 m 1350 ls []) := by
  obtain ⟨hx, hb, hml, hown, hts, hK3, hA, hSc, hbl, hbA, hX, hZ, hfl, hL, rfl⟩ := F
  obtain ⟨h, hP, hD, hS, hl⟩ := S
  have hK : va_K D vwCl (tyl cI cZ) s := hK3.sub (tys' := tyl cI cZ) [0, 1] rfl
  have hB : B 11 0 = nI n := h.1.1.1
  have hM : M 2 0 = nI n := h.1.1.2.1
  have hn : n ≤ 40 := h.1.1.2.2.1
  have hC : C 8 0 = nI q := h.1.2.2.1.1
  have hMq : M 15 0 = nI q := h.1.2.2.1.2.1
  have hq : q ≤ 30 := h.1.2.2.1.2.2.1
  have hso : ∀ i j, i ≤ j → j < n → M 6 i ≤ M 6 j := h.1.1.2.2.2.2.2.2.2.1
  have hs0 : ∀ i, i < n → 0 ≤ M 6 i := fun i hi => leI.mpr (by rw [i0]; exact (h.1.1.2.2.2.2.2.2.1 i hi).2.2.2.2.2.2.2.2.2.1)
  refine lv_aload_n hx hb dL_law_1350 rfl (lv_at hl 1 rfl) ?_
  refine arg_ld hx hb hl 0 4 rfl rfl 1 hi hL hSc hbl hbA hS (by decide) rfl dL_law_1351 dL_law_1352 dL_law_1354 rfl dL_law_1355 dL_law_1356 ?_
  refine lv_aload_n hx hb dL_law_1357 rfl (lv_at hl 3 rfl) ?_
  by_cases hk : ¬ ((xs (i + 1)) < 0 ∨ ¬ (xs (i + 1)) < C 8 0)
  · obtain ⟨rc, hrc, e1, -⟩ := rk_ix h.1 hk
    have h1 := rl_0 (x := 0) h
    have h' := rl_t (tt' := tt + 1) h1 (Nat.le_succ _)
    rw [e1]
    refine zcSL (wf := fun (_ : Unit) => wLM a g cI cZ cL B C E td (vp_updL oo 0 (C 3 rc).toInt64) M) ksLL ⟨hx, hb, hml, hown, hts⟩ (zwLL hP hD hS hA) hK3 hX hZ (c_L_unapplied_0 l D cI cZ cL a H.size B C E td q rc oo hC hq hrc) (vx_cwSW 3 hts gL_law_L_unapplied rfl rfl rfl (by decide +kernel) ⟨Nat.le_of_ble_eq_true rfl, Nat.le_of_ble_eq_true rfl⟩) (by decide) (fun _ => rfl) rfl hl.1 rfl (Nat.le_of_ble_eq_true rfl) dL_law_1358 ⟨by show cells + 0 ≤ 1086; omega, by show slots + 0 ≤ 14466; omega⟩ (fun r u H locs hw hP hD hS => ?_)
    have hw : r = 0 := hw
    subst hw
    refine lv_istore (lv' := [(5, .int (0)), (0, .ref b), (1, .ref (a 0)), (2, .ref (g 0)), (3, .ref (a 26)), (4, .int (nI i))]) hx hb dL_law_1361 hl (by decide) rfl (fun ls hl => ?_)
    refine lv_aload_n hx hb dL_law_1363 rfl (lv_at hl 3 rfl) ?_
    refine arg_ld hx hb hl 1 5 rfl rfl 1 hi hL hSc hbl hbA hS (by decide) rfl dL_law_1364 dL_law_1365 dL_law_1367 rfl dL_law_1368 dL_law_1369 ?_
    rw [e1]
    refine zcVi (ci := 4) (q0 := 0) (wf := fun (u : Nat → Nat → Int32) => wLM a g cI cZ cL B C E td (vp_updL oo 0 (C 3 rc).toInt64) u) ksMM ⟨hx, hb, hml, hown, hts⟩ (zwMM hP hD hS hA) hK (c_X4_unapplied_0 l D cI cZ g H.size M q rc hMq hq hrc) (cwV 1 hts gL_law_X4_unapplied rfl rfl rfl (by decide +kernel) ⟨Nat.le_of_ble_eq_true rfl, Nat.le_of_ble_eq_true rfl⟩) rfl rfl (by decide) (fun _ => rfl) rfl hl.1 rfl (Nat.le_of_ble_eq_true rfl) dL_law_1370 ⟨by show cells + 0 + 0 ≤ 1086; omega, by show slots + 0 + 0 ≤ 14466; omega⟩ (fun r u H locs hw hP hD hS => ?_)
    obtain ⟨rfl, rfl⟩ := hw
    refine lv_istore (lv' := [(6, .int ((M 18 rc))), (5, .int (0)), (0, .ref b), (1, .ref (a 0)), (2, .ref (g 0)), (3, .ref (a 26)), (4, .int (nI i))]) hx hb dL_law_1373 hl (by decide) rfl (fun ls hl => ?_)
    refine lw_tail (tgt := 1547) hx hb hml hown hts hK3 hA hP hD hS ⟨by decide, by decide⟩ ⟨by show cells + 0 + 0 ≤ 1086; omega, by show slots + 0 + 0 ≤ 14466; omega⟩ hl pt_s (fun _ => congrArg Int32.toInt64 (rr_at h.1.2.2.1 hrc).2.2.1) dL_law_1375 dL_law_1376 dL_law_1379 dL_law_1381 dL_law_1386 dL_law_1388 dL_law_1391 dL_law_1392 dL_law_1393 dL_law_1394 dL_law_1396 dL_law_1397 dL_law_1398 dL_law_1403 (by decide) (fun H locs hP hD hS => ?_)
    exact W.widen (by omega) (by omega) (kk _ _ _ _ _ _ _ _ _ _ _ ⟨h', hP, hD, hS, lv_sub hl [2, 3, 4, 5, 6] rfl⟩)
  · refine zcSL (wf := fun (_ : Unit) => wLM a g cI cZ cL B C E td oo M) ksLL ⟨hx, hb, hml, hown, hts⟩ (zwLL hP hD hS hA) hK3 hX hZ (c_L_unapplied_k l hfl D cI cZ cL a H.size B C E td (xs (i + 1)) oo (Classical.not_not.mp hk)) (vx_cwSW 3 hts gL_law_L_unapplied rfl rfl rfl (by decide +kernel) ⟨Nat.le_of_ble_eq_true rfl, Nat.le_of_ble_eq_true rfl⟩) (by decide) (fun _ => rfl) rfl hl.1 rfl (Nat.le_of_ble_eq_true rfl) dL_law_1358 ⟨hcs.1, hcs.2⟩ (fun r u H locs hw hP hD hS => ?_)
    have hw : r = 1 := hw
    subst hw
    refine lv_istore (lv' := [(5, .int (1)), (0, .ref b), (1, .ref (a 0)), (2, .ref (g 0)), (3, .ref (a 26)), (4, .int (nI i))]) hx hb dL_law_1361 hl (by decide) rfl (fun ls hl => ?_)
    refine lv_aload_n hx hb dL_law_1363 rfl (lv_at hl 3 rfl) ?_
    refine arg_ld hx hb hl 1 5 rfl rfl 1 hi hL hSc hbl hbA hS (by decide) rfl dL_law_1364 dL_law_1365 dL_law_1367 rfl dL_law_1368 dL_law_1369 ?_
    refine zcVi (ci := 4) (q0 := 0) (wf := fun (u : Nat → Nat → Int32) => wLM a g cI cZ cL B C E td oo u) ksMM ⟨hx, hb, hml, hown, hts⟩ (zwMM hP hD hS hA) hK (c_X4_unapplied_k l D cI cZ g H.size M q (xs (i + 1)) hMq hq (nix hC hk)) (cwV 1 hts gL_law_X4_unapplied rfl rfl rfl (by decide +kernel) ⟨Nat.le_of_ble_eq_true rfl, Nat.le_of_ble_eq_true rfl⟩) rfl rfl (by decide) (fun _ => rfl) rfl hl.1 rfl (Nat.le_of_ble_eq_true rfl) dL_law_1370 ⟨by show cells + 1 + 0 ≤ 1086; omega, by show slots + 6 + 0 ≤ 14466; omega⟩ (fun r u H locs hw hP hD hS => ?_)
    obtain ⟨rfl, rfl⟩ := hw
    refine lv_istore (lv' := [(6, .int (0)), (5, .int (1)), (0, .ref b), (1, .ref (a 0)), (2, .ref (g 0)), (3, .ref (a 26)), (4, .int (nI i))]) hx hb dL_law_1373 hl (by decide) rfl (fun ls hl => ?_)
    refine lw_tail (tgt := 1547) hx hb hml hown hts hK3 hA hP hD hS ⟨by decide, by decide⟩ ⟨by show cells + 1 + 0 ≤ 1086; omega, by show slots + 6 + 0 ≤ 14466; omega⟩ hl (by simp [pt_at]) (fun z => absurd z (by decide)) dL_law_1375 dL_law_1376 dL_law_1379 dL_law_1381 dL_law_1386 dL_law_1388 dL_law_1391 dL_law_1392 dL_law_1393 dL_law_1394 dL_law_1396 dL_law_1397 dL_law_1398 dL_law_1403 (by decide) (fun H locs hP hD hS => ?_)
    exact W.widen (by omega) (by omega) (kk _ _ _ _ _ _ _ _ _ _ _ ⟨(rl_t (rl_0 h) (Nat.le_succ _)), hP, hD, hS, lv_sub hl [2, 3, 4, 5, 6] rfl⟩)
end LWB
