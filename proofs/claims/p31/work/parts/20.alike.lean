theorem dL_alike_0 : decode cL_alike 0 = .ok (.aload_n 0, 1) := by decide +kernel
theorem dL_alike_1 : decode cL_alike 1 = .ok (.invokevirtual 90, 3) := by decide +kernel
theorem dL_alike_4 : decode cL_alike 4 = .ok (.aload_n 1, 1) := by decide +kernel
theorem dL_alike_5 : decode cL_alike 5 = .ok (.invokevirtual 90, 3) := by decide +kernel
theorem dL_alike_8 : decode cL_alike 8 = .ok (.if_icmp .ne 84, 3) := by decide +kernel
theorem dL_alike_11 : decode cL_alike 11 = .ok (.aload_n 0, 1) := by decide +kernel
theorem dL_alike_12 : decode cL_alike 12 = .ok (.invokevirtual 86, 3) := by decide +kernel
theorem dL_alike_15 : decode cL_alike 15 = .ok (.aload_n 1, 1) := by decide +kernel
theorem dL_alike_16 : decode cL_alike 16 = .ok (.invokevirtual 86, 3) := by decide +kernel
theorem dL_alike_19 : decode cL_alike 19 = .ok (.if_icmp .ne 73, 3) := by decide +kernel
theorem dL_alike_22 : decode cL_alike 22 = .ok (.aload_n 0, 1) := by decide +kernel
theorem dL_alike_23 : decode cL_alike 23 = .ok (.invokevirtual 151, 3) := by decide +kernel
theorem dL_alike_26 : decode cL_alike 26 = .ok (.aload_n 1, 1) := by decide +kernel
theorem dL_alike_27 : decode cL_alike 27 = .ok (.invokevirtual 151, 3) := by decide +kernel
theorem dL_alike_30 : decode cL_alike 30 = .ok (.if_icmp .ne 62, 3) := by decide +kernel
theorem dL_alike_33 : decode cL_alike 33 = .ok (.aload_n 0, 1) := by decide +kernel
theorem dL_alike_34 : decode cL_alike 34 = .ok (.invokevirtual 154, 3) := by decide +kernel
theorem dL_alike_37 : decode cL_alike 37 = .ok (.aload_n 1, 1) := by decide +kernel
theorem dL_alike_38 : decode cL_alike 38 = .ok (.invokevirtual 154, 3) := by decide +kernel
theorem dL_alike_41 : decode cL_alike 41 = .ok (.if_icmp .ne 51, 3) := by decide +kernel
theorem dL_alike_44 : decode cL_alike 44 = .ok (.aload_n 0, 1) := by decide +kernel
theorem dL_alike_45 : decode cL_alike 45 = .ok (.invokevirtual 157, 3) := by decide +kernel
theorem dL_alike_48 : decode cL_alike 48 = .ok (.aload_n 1, 1) := by decide +kernel
theorem dL_alike_49 : decode cL_alike 49 = .ok (.invokevirtual 157, 3) := by decide +kernel
theorem dL_alike_52 : decode cL_alike 52 = .ok (.if_icmp .ne 40, 3) := by decide +kernel
theorem dL_alike_55 : decode cL_alike 55 = .ok (.aload_n 0, 1) := by decide +kernel
theorem dL_alike_56 : decode cL_alike 56 = .ok (.invokevirtual 160, 3) := by decide +kernel
theorem dL_alike_59 : decode cL_alike 59 = .ok (.aload_n 1, 1) := by decide +kernel
theorem dL_alike_60 : decode cL_alike 60 = .ok (.invokevirtual 160, 3) := by decide +kernel
theorem dL_alike_63 : decode cL_alike 63 = .ok (.if_icmp .ne 29, 3) := by decide +kernel
theorem dL_alike_66 : decode cL_alike 66 = .ok (.aload_n 0, 1) := by decide +kernel
theorem dL_alike_67 : decode cL_alike 67 = .ok (.invokevirtual 163, 3) := by decide +kernel
theorem dL_alike_70 : decode cL_alike 70 = .ok (.aload_n 1, 1) := by decide +kernel
theorem dL_alike_71 : decode cL_alike 71 = .ok (.invokevirtual 163, 3) := by decide +kernel
theorem dL_alike_74 : decode cL_alike 74 = .ok (.if_icmp .ne 18, 3) := by decide +kernel
theorem dL_alike_77 : decode cL_alike 77 = .ok (.aload_n 0, 1) := by decide +kernel
theorem dL_alike_78 : decode cL_alike 78 = .ok (.invokevirtual 166, 3) := by decide +kernel
theorem dL_alike_81 : decode cL_alike 81 = .ok (.aload_n 1, 1) := by decide +kernel
theorem dL_alike_82 : decode cL_alike 82 = .ok (.invokevirtual 166, 3) := by decide +kernel
theorem dL_alike_85 : decode cL_alike 85 = .ok (.if_icmp .ne 7, 3) := by decide +kernel
theorem dL_alike_88 : decode cL_alike 88 = .ok (.iconst 1, 1) := by decide +kernel
theorem dL_alike_89 : decode cL_alike 89 = .ok (.goto 4, 3) := by decide +kernel
theorem dL_alike_92 : decode cL_alike 92 = .ok (.iconst 0, 1) := by decide +kernel
theorem dL_alike_93 : decode cL_alike 93 = .ok (.istore_n 2, 1) := by decide +kernel
theorem dL_alike_94 : decode cL_alike 94 = .ok (.iconst 0, 1) := by decide +kernel
theorem dL_alike_95 : decode cL_alike 95 = .ok (.istore_n 3, 1) := by decide +kernel
theorem dL_alike_96 : decode cL_alike 96 = .ok (.iload_n 3, 1) := by decide +kernel
theorem dL_alike_97 : decode cL_alike 97 = .ok (.aload_n 0, 1) := by decide +kernel
theorem dL_alike_98 : decode cL_alike 98 = .ok (.invokevirtual 90, 3) := by decide +kernel
theorem dL_alike_101 : decode cL_alike 101 = .ok (.if_icmp .ge 84, 3) := by decide +kernel
theorem dL_alike_104 : decode cL_alike 104 = .ok (.iload_n 2, 1) := by decide +kernel
theorem dL_alike_105 : decode cL_alike 105 = .ok (.ifCond .eq 80, 3) := by decide +kernel
theorem dL_alike_108 : decode cL_alike 108 = .ok (.aload_n 0, 1) := by decide +kernel
theorem dL_alike_109 : decode cL_alike 109 = .ok (.iload_n 3, 1) := by decide +kernel
theorem dL_alike_110 : decode cL_alike 110 = .ok (.invokestatic 124, 3) := by decide +kernel
theorem dL_alike_113 : decode cL_alike 113 = .ok (.aload_n 1, 1) := by decide +kernel
theorem dL_alike_114 : decode cL_alike 114 = .ok (.iload_n 3, 1) := by decide +kernel
theorem dL_alike_115 : decode cL_alike 115 = .ok (.invokestatic 124, 3) := by decide +kernel
theorem dL_alike_118 : decode cL_alike 118 = .ok (.if_icmp .ne 59, 3) := by decide +kernel
theorem dL_alike_121 : decode cL_alike 121 = .ok (.aload_n 0, 1) := by decide +kernel
theorem dL_alike_122 : decode cL_alike 122 = .ok (.iload_n 3, 1) := by decide +kernel
theorem dL_alike_123 : decode cL_alike 123 = .ok (.invokestatic 128, 3) := by decide +kernel
theorem dL_alike_126 : decode cL_alike 126 = .ok (.aload_n 1, 1) := by decide +kernel
theorem dL_alike_127 : decode cL_alike 127 = .ok (.iload_n 3, 1) := by decide +kernel
theorem dL_alike_128 : decode cL_alike 128 = .ok (.invokestatic 128, 3) := by decide +kernel
theorem dL_alike_131 : decode cL_alike 131 = .ok (.if_icmp .ne 46, 3) := by decide +kernel
theorem dL_alike_134 : decode cL_alike 134 = .ok (.aload_n 0, 1) := by decide +kernel
theorem dL_alike_135 : decode cL_alike 135 = .ok (.iload_n 3, 1) := by decide +kernel
theorem dL_alike_136 : decode cL_alike 136 = .ok (.invokestatic 130, 3) := by decide +kernel
theorem dL_alike_139 : decode cL_alike 139 = .ok (.aload_n 1, 1) := by decide +kernel
theorem dL_alike_140 : decode cL_alike 140 = .ok (.iload_n 3, 1) := by decide +kernel
theorem dL_alike_141 : decode cL_alike 141 = .ok (.invokestatic 130, 3) := by decide +kernel
theorem dL_alike_144 : decode cL_alike 144 = .ok (.if_icmp .ne 33, 3) := by decide +kernel
theorem dL_alike_147 : decode cL_alike 147 = .ok (.aload_n 0, 1) := by decide +kernel
theorem dL_alike_148 : decode cL_alike 148 = .ok (.iload_n 3, 1) := by decide +kernel
theorem dL_alike_149 : decode cL_alike 149 = .ok (.invokestatic 132, 3) := by decide +kernel
theorem dL_alike_152 : decode cL_alike 152 = .ok (.aload_n 1, 1) := by decide +kernel
theorem dL_alike_153 : decode cL_alike 153 = .ok (.iload_n 3, 1) := by decide +kernel
theorem dL_alike_154 : decode cL_alike 154 = .ok (.invokestatic 132, 3) := by decide +kernel
theorem dL_alike_157 : decode cL_alike 157 = .ok (.if_icmp .ne 20, 3) := by decide +kernel
theorem dL_alike_160 : decode cL_alike 160 = .ok (.aload_n 0, 1) := by decide +kernel
theorem dL_alike_161 : decode cL_alike 161 = .ok (.iload_n 3, 1) := by decide +kernel
theorem dL_alike_162 : decode cL_alike 162 = .ok (.invokestatic 126, 3) := by decide +kernel
theorem dL_alike_165 : decode cL_alike 165 = .ok (.aload_n 1, 1) := by decide +kernel
theorem dL_alike_166 : decode cL_alike 166 = .ok (.iload_n 3, 1) := by decide +kernel
theorem dL_alike_167 : decode cL_alike 167 = .ok (.invokestatic 126, 3) := by decide +kernel
theorem dL_alike_170 : decode cL_alike 170 = .ok (.if_icmp .ne 7, 3) := by decide +kernel
theorem dL_alike_173 : decode cL_alike 173 = .ok (.iconst 1, 1) := by decide +kernel
theorem dL_alike_174 : decode cL_alike 174 = .ok (.goto 4, 3) := by decide +kernel
theorem dL_alike_177 : decode cL_alike 177 = .ok (.iconst 0, 1) := by decide +kernel
theorem dL_alike_178 : decode cL_alike 178 = .ok (.istore_n 2, 1) := by decide +kernel
theorem dL_alike_179 : decode cL_alike 179 = .ok (.iinc 3 1, 3) := by decide +kernel
theorem dL_alike_182 : decode cL_alike 182 = .ok (.goto (-86), 3) := by decide +kernel
theorem dL_alike_185 : decode cL_alike 185 = .ok (.iconst 0, 1) := by decide +kernel
theorem dL_alike_186 : decode cL_alike 186 = .ok (.istore_n 3, 1) := by decide +kernel
theorem dL_alike_187 : decode cL_alike 187 = .ok (.iload_n 3, 1) := by decide +kernel
theorem dL_alike_188 : decode cL_alike 188 = .ok (.aload_n 0, 1) := by decide +kernel
theorem dL_alike_189 : decode cL_alike 189 = .ok (.invokevirtual 86, 3) := by decide +kernel
theorem dL_alike_192 : decode cL_alike 192 = .ok (.if_icmp .ge 45, 3) := by decide +kernel
theorem dL_alike_195 : decode cL_alike 195 = .ok (.iload_n 2, 1) := by decide +kernel
theorem dL_alike_196 : decode cL_alike 196 = .ok (.ifCond .eq 41, 3) := by decide +kernel
theorem dL_alike_199 : decode cL_alike 199 = .ok (.aload_n 0, 1) := by decide +kernel
theorem dL_alike_200 : decode cL_alike 200 = .ok (.iload_n 3, 1) := by decide +kernel
theorem dL_alike_201 : decode cL_alike 201 = .ok (.invokestatic 141, 3) := by decide +kernel
theorem dL_alike_204 : decode cL_alike 204 = .ok (.aload_n 1, 1) := by decide +kernel
theorem dL_alike_205 : decode cL_alike 205 = .ok (.iload_n 3, 1) := by decide +kernel
theorem dL_alike_206 : decode cL_alike 206 = .ok (.invokestatic 141, 3) := by decide +kernel
theorem dL_alike_209 : decode cL_alike 209 = .ok (.if_icmp .ne 20, 3) := by decide +kernel
theorem dL_alike_212 : decode cL_alike 212 = .ok (.aload_n 0, 1) := by decide +kernel
theorem dL_alike_213 : decode cL_alike 213 = .ok (.iload_n 3, 1) := by decide +kernel
theorem dL_alike_214 : decode cL_alike 214 = .ok (.invokestatic 146, 3) := by decide +kernel
theorem dL_alike_217 : decode cL_alike 217 = .ok (.aload_n 1, 1) := by decide +kernel
theorem dL_alike_218 : decode cL_alike 218 = .ok (.iload_n 3, 1) := by decide +kernel
theorem dL_alike_219 : decode cL_alike 219 = .ok (.invokestatic 146, 3) := by decide +kernel
theorem dL_alike_222 : decode cL_alike 222 = .ok (.if_icmp .ne 7, 3) := by decide +kernel
theorem dL_alike_225 : decode cL_alike 225 = .ok (.iconst 1, 1) := by decide +kernel
theorem dL_alike_226 : decode cL_alike 226 = .ok (.goto 4, 3) := by decide +kernel
theorem dL_alike_229 : decode cL_alike 229 = .ok (.iconst 0, 1) := by decide +kernel
theorem dL_alike_230 : decode cL_alike 230 = .ok (.istore_n 2, 1) := by decide +kernel
theorem dL_alike_231 : decode cL_alike 231 = .ok (.iinc 3 1, 3) := by decide +kernel
theorem dL_alike_234 : decode cL_alike 234 = .ok (.goto (-47), 3) := by decide +kernel
theorem dL_alike_237 : decode cL_alike 237 = .ok (.iload_n 2, 1) := by decide +kernel
theorem dL_alike_238 : decode cL_alike 238 = .ok (.ireturn, 1) := by decide +kernel
set_option maxHeartbeats 8000000 in
set_option maxRecDepth 100000 in
theorem al_a {p : Program} {l : Launch} {e : Env} {s : State} {m : MethodId} {args : Array Value} {below : List Frame} {meth : Method} {c : Code} {Q : State → Prop} {D : va_G} {A : Nat → Prop} {cI cZ : ClassId} {a g : Nat → Nat} {B R E : Nat → Nat → Int32} {td : Int32} {H : Heap} {locs : List Loc} {ls : Array Slot} (n : Nat) (q : Nat) (F : CallFix p m c cL_alike 4 s args wsL_alike RL) (hK : va_K D vwCl (tyl cI cZ) s) (hA : ∀ q : Nat, s.heap.size ≤ q → A q) (hX : ExB s) (hZ : ExZ A s s.heap) (hfl : l.stackTraces = false) (hB : B 11 0 = nI n) (hn : n ≤ 40) (hR : R 8 0 = nI q) (hq : q ≤ 30) (hP : va_P D vwCl (wCC a g cI cZ B R E (td)) H) (hD : va_D A (wCC a g cI cZ B R E (td))) (hS : va_S A s.heap H locs) (hl : lv_has ls 4 [(0, .ref (a 0)), (1, .ref (g 0))])
    (k96 : ∀ (H : Heap) (locs : List Loc) (ls : Array Slot), va_P D vwCl (wCC a g cI cZ B R E (td)) H → va_D A (wCC a g cI cZ B R E (td)) → va_S A s.heap H locs → lv_has ls 4 [(0, .ref (a 0)), (1, .ref (g 0)), (2, .int (nI (1))), (3, .int (nI (0)))] → W p l e ({ frames := 9, cells := 0, slots := 0, locals := 190 } : Room) s m args below meth c H locs 0 0 Q (F0 m 96 ls [])) :
    W p l e ({ frames := 9, cells := 0, slots := 0, locals := 190 } : Room) s m args below meth c H locs 0 0 Q (F0 m 0 ls []) := by
  obtain ⟨hx, hb, hml, hown, hts⟩ := id F
  have cv_bills : CallW ({ frames := 9, cells := 0, slots := 0, locals := 190 } : Room) s args RL RX3 90 yX3_bills cX3_bills 1 (some .int) wsX3_bills ({ frames := 0, cells := 0, slots := 0, locals := 0 } : Room) 0 0 0 := cwV 0 hts gL_alike_X3_bills rfl rfl rfl (by decide +kernel) ⟨Nat.le_of_ble_eq_true rfl, Nat.le_of_ble_eq_true rfl⟩
  have cv_receipts : CallW ({ frames := 9, cells := 0, slots := 0, locals := 190 } : Room) s args RL RX3 86 yX3_receipts cX3_receipts 1 (some .int) wsX3_receipts ({ frames := 0, cells := 0, slots := 0, locals := 0 } : Room) 0 0 0 := cwV 0 hts gL_alike_X3_receipts rfl rfl rfl (by decide +kernel) ⟨Nat.le_of_ble_eq_true rfl, Nat.le_of_ble_eq_true rfl⟩
  have cv_day : CallW ({ frames := 9, cells := 0, slots := 0, locals := 190 } : Room) s args RL RX3 151 yX3_day cX3_day 1 (some .int) wsX3_day ({ frames := 0, cells := 0, slots := 0, locals := 0 } : Room) 0 0 0 := cwV 0 hts gL_alike_X3_day rfl rfl rfl (by decide +kernel) ⟨Nat.le_of_ble_eq_true rfl, Nat.le_of_ble_eq_true rfl⟩
  have cv_received : CallW ({ frames := 9, cells := 0, slots := 0, locals := 190 } : Room) s args RL RX3 154 yX3_received cX3_received 1 (some .int) wsX3_received ({ frames := 1, cells := 0, slots := 0, locals := 23 } : Room) 0 0 0 := cwV 0 hts gL_alike_X3_received rfl rfl rfl (by decide +kernel) ⟨Nat.le_of_ble_eq_true rfl, Nat.le_of_ble_eq_true rfl⟩
  have cv_applied : CallW ({ frames := 9, cells := 0, slots := 0, locals := 190 } : Room) s args RL RX3 157 yX3_applied cX3_applied 1 (some .int) wsX3_applied ({ frames := 1, cells := 0, slots := 0, locals := 23 } : Room) 0 0 0 := cwV 0 hts gL_alike_X3_applied rfl rfl rfl (by decide +kernel) ⟨Nat.le_of_ble_eq_true rfl, Nat.le_of_ble_eq_true rfl⟩
  have cv_allUnapplied : CallW ({ frames := 9, cells := 0, slots := 0, locals := 190 } : Room) s args RL RX3 160 yX3_allUnapplied cX3_allUnapplied 1 (some .int) wsX3_allUnapplied ({ frames := 1, cells := 0, slots := 0, locals := 23 } : Room) 0 0 0 := cwV 0 hts gL_alike_X3_allUnapplied rfl rfl rfl (by decide +kernel) ⟨Nat.le_of_ble_eq_true rfl, Nat.le_of_ble_eq_true rfl⟩
  have cv_paidBack : CallW ({ frames := 9, cells := 0, slots := 0, locals := 190 } : Room) s args RL RX3 163 yX3_paidBack cX3_paidBack 1 (some .int) wsX3_paidBack ({ frames := 1, cells := 0, slots := 0, locals := 23 } : Room) 0 0 0 := cwV 0 hts gL_alike_X3_paidBack rfl rfl rfl (by decide +kernel) ⟨Nat.le_of_ble_eq_true rfl, Nat.le_of_ble_eq_true rfl⟩
  have cv_bounced : CallW ({ frames := 9, cells := 0, slots := 0, locals := 190 } : Room) s args RL RX3 166 yX3_bounced cX3_bounced 1 (some .int) wsX3_bounced ({ frames := 1, cells := 0, slots := 0, locals := 22 } : Room) 0 0 0 := cwV 0 hts gL_alike_X3_bounced rfl rfl rfl (by decide +kernel) ⟨Nat.le_of_ble_eq_true rfl, Nat.le_of_ble_eq_true rfl⟩
  refine lv_aload_n hx hb dL_alike_0 rfl (lv_at hl 0 rfl) ?_
  refine zkV (v := B 11 0) kC1 (ci := 3) (q0 := 0) F (zwC1 hP hD hS hA) hK (c_X3_bills l D cI cZ a H.size (B) (R) (E) (td) ) cv_bills rfl rfl (by decide) rfl rfl hl.1 rfl (Nat.le_of_ble_eq_true rfl) dL_alike_1 ⟨Nat.le_of_ble_eq_true rfl, Nat.le_of_ble_eq_true rfl⟩ (fun H locs hP hD hS => ?_)
  rw [hB]
  refine lv_aload_n hx hb dL_alike_4 rfl (lv_at hl 1 rfl) ?_
  refine zkV (v := B 11 0) kC2 (ci := 3) (q0 := 0) F (zwC2 hP hD hS hA) hK (c_X3_bills l D cI cZ g H.size (B) (R) (E) (td) ) cv_bills rfl rfl (by decide) rfl rfl hl.1 rfl (Nat.le_of_ble_eq_true rfl) dL_alike_5 ⟨Nat.le_of_ble_eq_true rfl, Nat.le_of_ble_eq_true rfl⟩ (fun H locs hP hD hS => ?_)
  rw [hB]
  refine lv_icmp_ne (tgt := 92) hx hb dL_alike_8 (by decide) (fun c8 => ?_) (fun c8 => ?_)
  · -- 8 taken
    exact absurd rfl c8
  · -- 8 on
    rw [nI_eq (by omega) (by omega)] at c8
    refine lv_aload_n hx hb dL_alike_11 rfl (lv_at hl 0 rfl) ?_
    refine zkV (v := R 8 0) kC1 (ci := 3) (q0 := 0) F (zwC1 hP hD hS hA) hK (c_X3_receipts l D cI cZ a H.size (B) (R) (E) (td) ) cv_receipts rfl rfl (by decide) rfl rfl hl.1 rfl (Nat.le_of_ble_eq_true rfl) dL_alike_12 ⟨Nat.le_of_ble_eq_true rfl, Nat.le_of_ble_eq_true rfl⟩ (fun H locs hP hD hS => ?_)
    rw [hR]
    refine lv_aload_n hx hb dL_alike_15 rfl (lv_at hl 1 rfl) ?_
    refine zkV (v := R 8 0) kC2 (ci := 3) (q0 := 0) F (zwC2 hP hD hS hA) hK (c_X3_receipts l D cI cZ g H.size (B) (R) (E) (td) ) cv_receipts rfl rfl (by decide) rfl rfl hl.1 rfl (Nat.le_of_ble_eq_true rfl) dL_alike_16 ⟨Nat.le_of_ble_eq_true rfl, Nat.le_of_ble_eq_true rfl⟩ (fun H locs hP hD hS => ?_)
    rw [hR]
    refine lv_icmp_ne (tgt := 92) hx hb dL_alike_19 (by decide) (fun c19 => ?_) (fun c19 => ?_)
    · -- 19 taken
      exact absurd rfl c19
    · -- 19 on
      rw [nI_eq (by omega) (by omega)] at c19
      refine lv_aload_n hx hb dL_alike_22 rfl (lv_at hl 0 rfl) ?_
      refine zkV (v := td) kC1 (ci := 3) (q0 := 0) F (zwC1 hP hD hS hA) hK (c_X3_day l D cI cZ a H.size (B) (R) (E) (td) ) cv_day rfl rfl (by decide) rfl rfl hl.1 rfl (Nat.le_of_ble_eq_true rfl) dL_alike_23 ⟨Nat.le_of_ble_eq_true rfl, Nat.le_of_ble_eq_true rfl⟩ (fun H locs hP hD hS => ?_)
      refine lv_aload_n hx hb dL_alike_26 rfl (lv_at hl 1 rfl) ?_
      refine zkV (v := td) kC2 (ci := 3) (q0 := 0) F (zwC2 hP hD hS hA) hK (c_X3_day l D cI cZ g H.size (B) (R) (E) (td) ) cv_day rfl rfl (by decide) rfl rfl hl.1 rfl (Nat.le_of_ble_eq_true rfl) dL_alike_27 ⟨Nat.le_of_ble_eq_true rfl, Nat.le_of_ble_eq_true rfl⟩ (fun H locs hP hD hS => ?_)
      refine lv_icmp_ne (tgt := 92) hx hb dL_alike_30 (by decide) (fun c30 => ?_) (fun c30 => ?_)
      · -- 30 taken
        exact absurd rfl c30
      · -- 30 on
        refine lv_aload_n hx hb dL_alike_33 rfl (lv_at hl 0 rfl) ?_
        refine zkV (v := l_sum (R 1) q) kC1 (ci := 3) (q0 := 0) F (zwC1 hP hD hS hA) hK (c_X3_received l D cI cZ a H.size (B) (R) (E) (td) (q) (by first | assumption | omega) (by first | assumption | omega)) cv_received rfl rfl (by decide) rfl rfl hl.1 rfl (Nat.le_of_ble_eq_true rfl) dL_alike_34 ⟨Nat.le_of_ble_eq_true rfl, Nat.le_of_ble_eq_true rfl⟩ (fun H locs hP hD hS => ?_)
        refine lv_aload_n hx hb dL_alike_37 rfl (lv_at hl 1 rfl) ?_
        refine zkV (v := l_sum (R 1) q) kC2 (ci := 3) (q0 := 0) F (zwC2 hP hD hS hA) hK (c_X3_received l D cI cZ g H.size (B) (R) (E) (td) (q) (by first | assumption | omega) (by first | assumption | omega)) cv_received rfl rfl (by decide) rfl rfl hl.1 rfl (Nat.le_of_ble_eq_true rfl) dL_alike_38 ⟨Nat.le_of_ble_eq_true rfl, Nat.le_of_ble_eq_true rfl⟩ (fun H locs hP hD hS => ?_)
        refine lv_icmp_ne (tgt := 92) hx hb dL_alike_41 (by decide) (fun c41 => ?_) (fun c41 => ?_)
        · -- 41 taken
          exact absurd rfl c41
        · -- 41 on
          refine lv_aload_n hx hb dL_alike_44 rfl (lv_at hl 0 rfl) ?_
          refine zkV (v := l_sum (R 2) q) kC1 (ci := 3) (q0 := 0) F (zwC1 hP hD hS hA) hK (c_X3_applied l D cI cZ a H.size (B) (R) (E) (td) (q) (by first | assumption | omega) (by first | assumption | omega)) cv_applied rfl rfl (by decide) rfl rfl hl.1 rfl (Nat.le_of_ble_eq_true rfl) dL_alike_45 ⟨Nat.le_of_ble_eq_true rfl, Nat.le_of_ble_eq_true rfl⟩ (fun H locs hP hD hS => ?_)
          refine lv_aload_n hx hb dL_alike_48 rfl (lv_at hl 1 rfl) ?_
          refine zkV (v := l_sum (R 2) q) kC2 (ci := 3) (q0 := 0) F (zwC2 hP hD hS hA) hK (c_X3_applied l D cI cZ g H.size (B) (R) (E) (td) (q) (by first | assumption | omega) (by first | assumption | omega)) cv_applied rfl rfl (by decide) rfl rfl hl.1 rfl (Nat.le_of_ble_eq_true rfl) dL_alike_49 ⟨Nat.le_of_ble_eq_true rfl, Nat.le_of_ble_eq_true rfl⟩ (fun H locs hP hD hS => ?_)
          refine lv_icmp_ne (tgt := 92) hx hb dL_alike_52 (by decide) (fun c52 => ?_) (fun c52 => ?_)
          · -- 52 taken
            exact absurd rfl c52
          · -- 52 on
            refine lv_aload_n hx hb dL_alike_55 rfl (lv_at hl 0 rfl) ?_
            refine zkV (v := l_sum (R 3) q) kC1 (ci := 3) (q0 := 0) F (zwC1 hP hD hS hA) hK (c_X3_allUnapplied l D cI cZ a H.size (B) (R) (E) (td) (q) (by first | assumption | omega) (by first | assumption | omega)) cv_allUnapplied rfl rfl (by decide) rfl rfl hl.1 rfl (Nat.le_of_ble_eq_true rfl) dL_alike_56 ⟨Nat.le_of_ble_eq_true rfl, Nat.le_of_ble_eq_true rfl⟩ (fun H locs hP hD hS => ?_)
            refine lv_aload_n hx hb dL_alike_59 rfl (lv_at hl 1 rfl) ?_
            refine zkV (v := l_sum (R 3) q) kC2 (ci := 3) (q0 := 0) F (zwC2 hP hD hS hA) hK (c_X3_allUnapplied l D cI cZ g H.size (B) (R) (E) (td) (q) (by first | assumption | omega) (by first | assumption | omega)) cv_allUnapplied rfl rfl (by decide) rfl rfl hl.1 rfl (Nat.le_of_ble_eq_true rfl) dL_alike_60 ⟨Nat.le_of_ble_eq_true rfl, Nat.le_of_ble_eq_true rfl⟩ (fun H locs hP hD hS => ?_)
            refine lv_icmp_ne (tgt := 92) hx hb dL_alike_63 (by decide) (fun c63 => ?_) (fun c63 => ?_)
            · -- 63 taken
              exact absurd rfl c63
            · -- 63 on
              refine lv_aload_n hx hb dL_alike_66 rfl (lv_at hl 0 rfl) ?_
              refine zkV (v := l_sum (R 4) q) kC1 (ci := 3) (q0 := 0) F (zwC1 hP hD hS hA) hK (c_X3_paidBack l D cI cZ a H.size (B) (R) (E) (td) (q) (by first | assumption | omega) (by first | assumption | omega)) cv_paidBack rfl rfl (by decide) rfl rfl hl.1 rfl (Nat.le_of_ble_eq_true rfl) dL_alike_67 ⟨Nat.le_of_ble_eq_true rfl, Nat.le_of_ble_eq_true rfl⟩ (fun H locs hP hD hS => ?_)
              refine lv_aload_n hx hb dL_alike_70 rfl (lv_at hl 1 rfl) ?_
              refine zkV (v := l_sum (R 4) q) kC2 (ci := 3) (q0 := 0) F (zwC2 hP hD hS hA) hK (c_X3_paidBack l D cI cZ g H.size (B) (R) (E) (td) (q) (by first | assumption | omega) (by first | assumption | omega)) cv_paidBack rfl rfl (by decide) rfl rfl hl.1 rfl (Nat.le_of_ble_eq_true rfl) dL_alike_71 ⟨Nat.le_of_ble_eq_true rfl, Nat.le_of_ble_eq_true rfl⟩ (fun H locs hP hD hS => ?_)
              refine lv_icmp_ne (tgt := 92) hx hb dL_alike_74 (by decide) (fun c74 => ?_) (fun c74 => ?_)
              · -- 74 taken
                exact absurd rfl c74
              · -- 74 on
                refine lv_aload_n hx hb dL_alike_77 rfl (lv_at hl 0 rfl) ?_
                refine zkV (v := bsm R q) kC1 (ci := 3) (q0 := 0) F (zwC1 hP hD hS hA) hK (c_X3_bounced l D cI cZ a H.size (B) (R) (E) (td) (q) (by first | assumption | omega) (by first | assumption | omega)) cv_bounced rfl rfl (by decide) rfl rfl hl.1 rfl (Nat.le_of_ble_eq_true rfl) dL_alike_78 ⟨Nat.le_of_ble_eq_true rfl, Nat.le_of_ble_eq_true rfl⟩ (fun H locs hP hD hS => ?_)
                refine lv_aload_n hx hb dL_alike_81 rfl (lv_at hl 1 rfl) ?_
                refine zkV (v := bsm R q) kC2 (ci := 3) (q0 := 0) F (zwC2 hP hD hS hA) hK (c_X3_bounced l D cI cZ g H.size (B) (R) (E) (td) (q) (by first | assumption | omega) (by first | assumption | omega)) cv_bounced rfl rfl (by decide) rfl rfl hl.1 rfl (Nat.le_of_ble_eq_true rfl) dL_alike_82 ⟨Nat.le_of_ble_eq_true rfl, Nat.le_of_ble_eq_true rfl⟩ (fun H locs hP hD hS => ?_)
                refine lv_icmp_ne (tgt := 92) hx hb dL_alike_85 (by decide) (fun c85 => ?_) (fun c85 => ?_)
                · -- 85 taken
                  exact absurd rfl c85
                · -- 85 on
                  refine lv_iconst (v := nI (1)) hx hb dL_alike_88 (by decide) ?_
                  refine lv_goto (tgt := 93) hx hb dL_alike_89 (by decide) ?_
                  refine lv_istore_n (lv' := [(2, .int (nI (1))), (0, .ref (a 0)), (1, .ref (g 0))]) hx hb dL_alike_93 rfl hl (by decide) rfl (fun ls hl => ?_)
                  refine lv_iconst (v := nI (0)) hx hb dL_alike_94 (by decide) ?_
                  refine lv_istore_n (lv' := [(3, .int (nI (0))), (2, .int (nI (1))), (0, .ref (a 0)), (1, .ref (g 0))]) hx hb dL_alike_95 rfl hl (by decide) rfl (fun ls hl => ?_)
                  exact k96  _ _ _ hP hD hS (lv_sub hl [2, 3, 1, 0] rfl)
set_option maxHeartbeats 8000000 in
set_option maxRecDepth 100000 in
theorem al_b {p : Program} {l : Launch} {e : Env} {s : State} {m : MethodId} {args : Array Value} {below : List Frame} {meth : Method} {c : Code} {Q : State → Prop} {D : va_G} {A : Nat → Prop} {cI cZ : ClassId} {a g : Nat → Nat} {B R E : Nat → Nat → Int32} {td : Int32} {H : Heap} {locs : List Loc} {ls : Array Slot} (n : Nat) (q : Nat) (F : CallFix p m c cL_alike 4 s args wsL_alike RL) (hK : va_K D vwCl (tyl cI cZ) s) (hA : ∀ q : Nat, s.heap.size ≤ q → A q) (hX : ExB s) (hZ : ExZ A s s.heap) (hfl : l.stackTraces = false) (hB : B 11 0 = nI n) (hn : n ≤ 40) (hR : R 8 0 = nI q) (hq : q ≤ 30) (hP : va_P D vwCl (wCC a g cI cZ B R E (td)) H) (hD : va_D A (wCC a g cI cZ B R E (td))) (hS : va_S A s.heap H locs) (hl : lv_has ls 4 [(0, .ref (a 0)), (1, .ref (g 0)), (2, .int (nI (1))), (3, .int (nI (0)))])
    (k185 : ∀ (H : Heap) (locs : List Loc) (ls : Array Slot), va_P D vwCl (wCC a g cI cZ B R E (td)) H → va_D A (wCC a g cI cZ B R E (td)) → va_S A s.heap H locs → lv_has ls 4 [(0, .ref (a 0)), (1, .ref (g 0)), (2, .int (nI (1)))] → W p l e ({ frames := 9, cells := 0, slots := 0, locals := 190 } : Room) s m args below meth c H locs 0 0 Q (F0 m 185 ls [])) :
    W p l e ({ frames := 9, cells := 0, slots := 0, locals := 190 } : Room) s m args below meth c H locs 0 0 Q (F0 m 96 ls []) := by
  obtain ⟨hx, hb, hml, hown, hts⟩ := id F
  have cv_bills : CallW ({ frames := 9, cells := 0, slots := 0, locals := 190 } : Room) s args RL RX3 90 yX3_bills cX3_bills 1 (some .int) wsX3_bills ({ frames := 0, cells := 0, slots := 0, locals := 0 } : Room) 0 0 0 := cwV 0 hts gL_alike_X3_bills rfl rfl rfl (by decide +kernel) ⟨Nat.le_of_ble_eq_true rfl, Nat.le_of_ble_eq_true rfl⟩
  have cw_open_0 : vx_CSW ({ frames := 9, cells := 0, slots := 0, locals := 190 } : Room) s args RL 124 yL_open cL_open 3 (some .int) [(0, 5, 6, 13)] wsL_open ({ frames := 2, cells := 0, slots := 0, locals := 42 } : Room) 0 0 2 := vx_cwSW 2 hts gL_alike_L_open rfl rfl rfl (by decide +kernel) ⟨Nat.le_of_ble_eq_true rfl, Nat.le_of_ble_eq_true rfl⟩
  have cw_paid_0 : vx_CSW ({ frames := 9, cells := 0, slots := 0, locals := 190 } : Room) s args RL 128 yL_paid cL_paid 3 (some .int) [(0, 5, 6, 13)] wsL_paid ({ frames := 2, cells := 0, slots := 0, locals := 42 } : Room) 0 0 2 := vx_cwSW 2 hts gL_alike_L_paid rfl rfl rfl (by decide +kernel) ⟨Nat.le_of_ble_eq_true rfl, Nat.le_of_ble_eq_true rfl⟩
  have cw_taken_0 : vx_CSW ({ frames := 9, cells := 0, slots := 0, locals := 190 } : Room) s args RL 130 yL_taken cL_taken 3 (some .int) [(0, 5, 6, 13)] wsL_taken ({ frames := 2, cells := 0, slots := 0, locals := 42 } : Room) 0 0 2 := vx_cwSW 2 hts gL_alike_L_taken rfl rfl rfl (by decide +kernel) ⟨Nat.le_of_ble_eq_true rfl, Nat.le_of_ble_eq_true rfl⟩
  have cw_disputed_0 : vx_CSW ({ frames := 9, cells := 0, slots := 0, locals := 190 } : Room) s args RL 132 yL_disputed cL_disputed 3 (some .int) [(0, 5, 6, 13)] wsL_disputed ({ frames := 2, cells := 0, slots := 0, locals := 42 } : Room) 0 0 2 := vx_cwSW 2 hts gL_alike_L_disputed rfl rfl rfl (by decide +kernel) ⟨Nat.le_of_ble_eq_true rfl, Nat.le_of_ble_eq_true rfl⟩
  have cw_due_0 : vx_CSW ({ frames := 9, cells := 0, slots := 0, locals := 190 } : Room) s args RL 126 yL_due cL_due 3 (some .int) [(0, 5, 6, 13)] wsL_due ({ frames := 4, cells := 0, slots := 0, locals := 87 } : Room) 0 0 2 := vx_cwSW 2 hts gL_alike_L_due rfl rfl rfl (by decide +kernel) ⟨Nat.le_of_ble_eq_true rfl, Nat.le_of_ble_eq_true rfl⟩
  have loop96 : ∀ (fu : Nat) (i : Nat) (hi : i ≤ n) (hfu : n - i < fu) (H : Heap) (locs : List Loc) (hP : va_P D vwCl (wCC a g cI cZ B R E (td)) H) (hD : va_D A (wCC a g cI cZ B R E (td))) (hS : va_S A s.heap H locs) (ls : Array Slot) (hl : lv_has ls 4 [(0, .ref (a 0)), (1, .ref (g 0)), (2, .int (nI (1))), (3, .int (nI (i)))]), W p l e ({ frames := 9, cells := 0, slots := 0, locals := 190 } : Room) s m args below meth c H locs 0 0 Q (F0 m 96 ls []) := by
    clear hP hD hS hl
    intro fu96
    induction fu96 with
    | zero => intro i hi hfu; exact absurd hfu (Nat.not_lt_zero _)
    | succ fu96 ih96 =>
      intro i hi hfu H locs hP hD hS ls hl
      refine lv_iload_n hx hb dL_alike_96 rfl (lv_at hl 3 rfl) ?_
      refine lv_aload_n hx hb dL_alike_97 rfl (lv_at hl 0 rfl) ?_
      refine zkV (v := B 11 0) kC1 (ci := 3) (q0 := 0) F (zwC1 hP hD hS hA) hK (c_X3_bills l D cI cZ a H.size (B) (R) (E) (td) ) cv_bills rfl rfl (by decide) rfl rfl hl.1 rfl (Nat.le_of_ble_eq_true rfl) dL_alike_98 ⟨Nat.le_of_ble_eq_true rfl, Nat.le_of_ble_eq_true rfl⟩ (fun H locs hP hD hS => ?_)
      rw [hB]
      refine lv_icmp_ge (tgt := 185) hx hb dL_alike_101 (by decide) (fun c101 => ?_) (fun c101 => ?_)
      · -- 101 taken
        rw [nI_leI (by omega) (by omega)] at c101
        exact k185  _ _ _ hP hD hS (lv_sub hl [0, 1, 2] rfl)
      · -- 101 on
        rw [nI_leI (by omega) (by omega)] at c101
        refine lv_iload_n hx hb dL_alike_104 rfl (lv_at hl 2 rfl) ?_
        refine lv_if_eq (tgt := 185) hx hb dL_alike_105 (by decide) (fun c105 => ?_) (fun c105 => ?_)
        · -- 105 taken
          exact absurd c105 (by decide)
        · -- 105 on
          rw [show (0 : Int32) = nI 0 from rfl] at c105
          rw [nI_eq (by omega) (by omega)] at c105
          refine lv_aload_n hx hb dL_alike_108 rfl (lv_at hl 0 rfl) ?_
          refine lv_iload_n hx hb dL_alike_109 rfl (lv_at hl 3 rfl) ?_
          refine zkW (v := opn B i) kC1 F (zwC1 hP hD hS hA) hK hX hZ (c_L_open_0 l D cI cZ a H.size (B) (R) (E) (td) (n) (i) (by first | assumption | omega) (by first | assumption | omega) (by first | assumption | omega)) cw_open_0 (by decide) rfl rfl hl.1 rfl (Nat.le_of_ble_eq_true rfl) dL_alike_110 ⟨Nat.le_of_ble_eq_true rfl, Nat.le_of_ble_eq_true rfl⟩ (fun H locs hP hD hS => ?_)
          refine lv_aload_n hx hb dL_alike_113 rfl (lv_at hl 1 rfl) ?_
          refine lv_iload_n hx hb dL_alike_114 rfl (lv_at hl 3 rfl) ?_
          refine zkW (v := opn B i) kC2 F (zwC2 hP hD hS hA) hK hX hZ (c_L_open_0 l D cI cZ g H.size (B) (R) (E) (td) (n) (i) (by first | assumption | omega) (by first | assumption | omega) (by first | assumption | omega)) cw_open_0 (by decide) rfl rfl hl.1 rfl (Nat.le_of_ble_eq_true rfl) dL_alike_115 ⟨Nat.le_of_ble_eq_true rfl, Nat.le_of_ble_eq_true rfl⟩ (fun H locs hP hD hS => ?_)
          refine lv_icmp_ne (tgt := 177) hx hb dL_alike_118 (by decide) (fun c118 => ?_) (fun c118 => ?_)
          · -- 118 taken
            exact absurd rfl c118
          · -- 118 on
            refine lv_aload_n hx hb dL_alike_121 rfl (lv_at hl 0 rfl) ?_
            refine lv_iload_n hx hb dL_alike_122 rfl (lv_at hl 3 rfl) ?_
            refine zkW (v := B 5 i) kC1 F (zwC1 hP hD hS hA) hK hX hZ (c_L_paid_0 l D cI cZ a H.size (B) (R) (E) (td) (n) (i) (by first | assumption | omega) (by first | assumption | omega) (by first | assumption | omega)) cw_paid_0 (by decide) rfl rfl hl.1 rfl (Nat.le_of_ble_eq_true rfl) dL_alike_123 ⟨Nat.le_of_ble_eq_true rfl, Nat.le_of_ble_eq_true rfl⟩ (fun H locs hP hD hS => ?_)
            refine lv_aload_n hx hb dL_alike_126 rfl (lv_at hl 1 rfl) ?_
            refine lv_iload_n hx hb dL_alike_127 rfl (lv_at hl 3 rfl) ?_
            refine zkW (v := B 5 i) kC2 F (zwC2 hP hD hS hA) hK hX hZ (c_L_paid_0 l D cI cZ g H.size (B) (R) (E) (td) (n) (i) (by first | assumption | omega) (by first | assumption | omega) (by first | assumption | omega)) cw_paid_0 (by decide) rfl rfl hl.1 rfl (Nat.le_of_ble_eq_true rfl) dL_alike_128 ⟨Nat.le_of_ble_eq_true rfl, Nat.le_of_ble_eq_true rfl⟩ (fun H locs hP hD hS => ?_)
            refine lv_icmp_ne (tgt := 177) hx hb dL_alike_131 (by decide) (fun c131 => ?_) (fun c131 => ?_)
            · -- 131 taken
              exact absurd rfl c131
            · -- 131 on
              refine lv_aload_n hx hb dL_alike_134 rfl (lv_at hl 0 rfl) ?_
              refine lv_iload_n hx hb dL_alike_135 rfl (lv_at hl 3 rfl) ?_
              refine zkW (v := B 6 i) kC1 F (zwC1 hP hD hS hA) hK hX hZ (c_L_taken_0 l D cI cZ a H.size (B) (R) (E) (td) (n) (i) (by first | assumption | omega) (by first | assumption | omega) (by first | assumption | omega)) cw_taken_0 (by decide) rfl rfl hl.1 rfl (Nat.le_of_ble_eq_true rfl) dL_alike_136 ⟨Nat.le_of_ble_eq_true rfl, Nat.le_of_ble_eq_true rfl⟩ (fun H locs hP hD hS => ?_)
              refine lv_aload_n hx hb dL_alike_139 rfl (lv_at hl 1 rfl) ?_
              refine lv_iload_n hx hb dL_alike_140 rfl (lv_at hl 3 rfl) ?_
              refine zkW (v := B 6 i) kC2 F (zwC2 hP hD hS hA) hK hX hZ (c_L_taken_0 l D cI cZ g H.size (B) (R) (E) (td) (n) (i) (by first | assumption | omega) (by first | assumption | omega) (by first | assumption | omega)) cw_taken_0 (by decide) rfl rfl hl.1 rfl (Nat.le_of_ble_eq_true rfl) dL_alike_141 ⟨Nat.le_of_ble_eq_true rfl, Nat.le_of_ble_eq_true rfl⟩ (fun H locs hP hD hS => ?_)
              refine lv_icmp_ne (tgt := 177) hx hb dL_alike_144 (by decide) (fun c144 => ?_) (fun c144 => ?_)
              · -- 144 taken
                exact absurd rfl c144
              · -- 144 on
                refine lv_aload_n hx hb dL_alike_147 rfl (lv_at hl 0 rfl) ?_
                refine lv_iload_n hx hb dL_alike_148 rfl (lv_at hl 3 rfl) ?_
                refine zkW (v := B 8 i) kC1 F (zwC1 hP hD hS hA) hK hX hZ (c_L_disputed_0 l D cI cZ a H.size (B) (R) (E) (td) (n) (i) (by first | assumption | omega) (by first | assumption | omega) (by first | assumption | omega)) cw_disputed_0 (by decide) rfl rfl hl.1 rfl (Nat.le_of_ble_eq_true rfl) dL_alike_149 ⟨Nat.le_of_ble_eq_true rfl, Nat.le_of_ble_eq_true rfl⟩ (fun H locs hP hD hS => ?_)
                refine lv_aload_n hx hb dL_alike_152 rfl (lv_at hl 1 rfl) ?_
                refine lv_iload_n hx hb dL_alike_153 rfl (lv_at hl 3 rfl) ?_
                refine zkW (v := B 8 i) kC2 F (zwC2 hP hD hS hA) hK hX hZ (c_L_disputed_0 l D cI cZ g H.size (B) (R) (E) (td) (n) (i) (by first | assumption | omega) (by first | assumption | omega) (by first | assumption | omega)) cw_disputed_0 (by decide) rfl rfl hl.1 rfl (Nat.le_of_ble_eq_true rfl) dL_alike_154 ⟨Nat.le_of_ble_eq_true rfl, Nat.le_of_ble_eq_true rfl⟩ (fun H locs hP hD hS => ?_)
                refine lv_icmp_ne (tgt := 177) hx hb dL_alike_157 (by decide) (fun c157 => ?_) (fun c157 => ?_)
                · -- 157 taken
                  exact absurd rfl c157
                · -- 157 on
                  refine lv_aload_n hx hb dL_alike_160 rfl (lv_at hl 0 rfl) ?_
                  refine lv_iload_n hx hb dL_alike_161 rfl (lv_at hl 3 rfl) ?_
                  refine zkW (v := dueN B i td) kC1 F (zwC1 hP hD hS hA) hK hX hZ (c_L_due_0 l D cI cZ a H.size (B) (R) (E) (td) (n) (i) (by first | assumption | omega) (by first | assumption | omega) (by first | assumption | omega)) cw_due_0 (by decide) rfl rfl hl.1 rfl (Nat.le_of_ble_eq_true rfl) dL_alike_162 ⟨Nat.le_of_ble_eq_true rfl, Nat.le_of_ble_eq_true rfl⟩ (fun H locs hP hD hS => ?_)
                  refine lv_aload_n hx hb dL_alike_165 rfl (lv_at hl 1 rfl) ?_
                  refine lv_iload_n hx hb dL_alike_166 rfl (lv_at hl 3 rfl) ?_
                  refine zkW (v := dueN B i td) kC2 F (zwC2 hP hD hS hA) hK hX hZ (c_L_due_0 l D cI cZ g H.size (B) (R) (E) (td) (n) (i) (by first | assumption | omega) (by first | assumption | omega) (by first | assumption | omega)) cw_due_0 (by decide) rfl rfl hl.1 rfl (Nat.le_of_ble_eq_true rfl) dL_alike_167 ⟨Nat.le_of_ble_eq_true rfl, Nat.le_of_ble_eq_true rfl⟩ (fun H locs hP hD hS => ?_)
                  refine lv_icmp_ne (tgt := 177) hx hb dL_alike_170 (by decide) (fun c170 => ?_) (fun c170 => ?_)
                  · -- 170 taken
                    exact absurd rfl c170
                  · -- 170 on
                    refine lv_iconst (v := nI (1)) hx hb dL_alike_173 (by decide) ?_
                    refine lv_goto (tgt := 178) hx hb dL_alike_174 (by decide) ?_
                    refine lv_istore_n (lv' := [(2, .int (nI (1))), (0, .ref (a 0)), (1, .ref (g 0)), (3, .int (nI (i)))]) hx hb dL_alike_178 rfl hl (by decide) rfl (fun ls hl => ?_)
                    refine lv_iinc (v := nI (i + 1)) (lv' := [(3, .int (nI (i + 1))), (2, .int (nI (1))), (0, .ref (a 0)), (1, .ref (g 0))]) hx hb dL_alike_179 hl (k := 3) rfl (nI_1 _) (by decide) rfl (fun ls hl => ?_)
                    refine lv_goto (tgt := 96) hx hb dL_alike_182 (by decide) ?_
                    exact ih96 (i + 1) (by omega) (by omega) _ _ hP hD hS _ (lv_sub hl [2, 3, 1, 0] rfl)
  exact loop96 _ (0) (Nat.zero_le _) (Nat.lt_succ_self _) _ _ hP hD hS _ (lv_sub hl [0, 1, 2, 3] rfl)
set_option maxHeartbeats 8000000 in
set_option maxRecDepth 100000 in
theorem al_c {p : Program} {l : Launch} {e : Env} {s : State} {m : MethodId} {args : Array Value} {below : List Frame} {meth : Method} {c : Code} {Q : State → Prop} {D : va_G} {A : Nat → Prop} {cI cZ : ClassId} {a g : Nat → Nat} {B R E : Nat → Nat → Int32} {td : Int32} {H : Heap} {locs : List Loc} {ls : Array Slot} (n : Nat) (q : Nat) (F : CallFix p m c cL_alike 4 s args wsL_alike RL) (hK : va_K D vwCl (tyl cI cZ) s) (hA : ∀ q : Nat, s.heap.size ≤ q → A q) (hX : ExB s) (hZ : ExZ A s s.heap) (hfl : l.stackTraces = false) (hB : B 11 0 = nI n) (hn : n ≤ 40) (hR : R 8 0 = nI q) (hq : q ≤ 30) (hP : va_P D vwCl (wCC a g cI cZ B R E (td)) H) (hD : va_D A (wCC a g cI cZ B R E (td))) (hS : va_S A s.heap H locs) (hl : lv_has ls 4 [(0, .ref (a 0)), (1, .ref (g 0)), (2, .int (nI (1)))])
    (k237 : ∀ (H : Heap) (locs : List Loc) (ls : Array Slot), va_P D vwCl (wCC a g cI cZ B R E (td)) H → va_D A (wCC a g cI cZ B R E (td)) → va_S A s.heap H locs → lv_has ls 4 [(0, .ref (a 0)), (1, .ref (g 0)), (2, .int (nI (1)))] → W p l e ({ frames := 9, cells := 0, slots := 0, locals := 190 } : Room) s m args below meth c H locs 0 0 Q (F0 m 237 ls [])) :
    W p l e ({ frames := 9, cells := 0, slots := 0, locals := 190 } : Room) s m args below meth c H locs 0 0 Q (F0 m 185 ls []) := by
  obtain ⟨hx, hb, hml, hown, hts⟩ := id F
  have cv_receipts : CallW ({ frames := 9, cells := 0, slots := 0, locals := 190 } : Room) s args RL RX3 86 yX3_receipts cX3_receipts 1 (some .int) wsX3_receipts ({ frames := 0, cells := 0, slots := 0, locals := 0 } : Room) 0 0 0 := cwV 0 hts gL_alike_X3_receipts rfl rfl rfl (by decide +kernel) ⟨Nat.le_of_ble_eq_true rfl, Nat.le_of_ble_eq_true rfl⟩
  have cw_customer_0 : vx_CSW ({ frames := 9, cells := 0, slots := 0, locals := 190 } : Room) s args RL 141 yL_customer cL_customer 3 (some .int) [(0, 5, 6, 13)] wsL_customer ({ frames := 2, cells := 0, slots := 0, locals := 42 } : Room) 0 0 2 := vx_cwSW 2 hts gL_alike_L_customer rfl rfl rfl (by decide +kernel) ⟨Nat.le_of_ble_eq_true rfl, Nat.le_of_ble_eq_true rfl⟩
  have cw_unapplied_0 : vx_CSW ({ frames := 9, cells := 0, slots := 0, locals := 190 } : Room) s args RL 146 yL_unapplied cL_unapplied 3 (some .int) [(0, 5, 6, 13)] wsL_unapplied ({ frames := 2, cells := 0, slots := 0, locals := 42 } : Room) 0 0 2 := vx_cwSW 2 hts gL_alike_L_unapplied rfl rfl rfl (by decide +kernel) ⟨Nat.le_of_ble_eq_true rfl, Nat.le_of_ble_eq_true rfl⟩
  refine lv_iconst (v := nI (0)) hx hb dL_alike_185 (by decide) ?_
  refine lv_istore_n (lv' := [(3, .int (nI (0))), (0, .ref (a 0)), (1, .ref (g 0)), (2, .int (nI (1)))]) hx hb dL_alike_186 rfl hl (by decide) rfl (fun ls hl => ?_)
  have loop187 : ∀ (fu : Nat) (i : Nat) (hi : i ≤ q) (hfu : q - i < fu) (H : Heap) (locs : List Loc) (hP : va_P D vwCl (wCC a g cI cZ B R E (td)) H) (hD : va_D A (wCC a g cI cZ B R E (td))) (hS : va_S A s.heap H locs) (ls : Array Slot) (hl : lv_has ls 4 [(0, .ref (a 0)), (1, .ref (g 0)), (2, .int (nI (1))), (3, .int (nI (i)))]), W p l e ({ frames := 9, cells := 0, slots := 0, locals := 190 } : Room) s m args below meth c H locs 0 0 Q (F0 m 187 ls []) := by
    clear hP hD hS hl
    intro fu187
    induction fu187 with
    | zero => intro i hi hfu; exact absurd hfu (Nat.not_lt_zero _)
    | succ fu187 ih187 =>
      intro i hi hfu H locs hP hD hS ls hl
      refine lv_iload_n hx hb dL_alike_187 rfl (lv_at hl 3 rfl) ?_
      refine lv_aload_n hx hb dL_alike_188 rfl (lv_at hl 0 rfl) ?_
      refine zkV (v := R 8 0) kC1 (ci := 3) (q0 := 0) F (zwC1 hP hD hS hA) hK (c_X3_receipts l D cI cZ a H.size (B) (R) (E) (td) ) cv_receipts rfl rfl (by decide) rfl rfl hl.1 rfl (Nat.le_of_ble_eq_true rfl) dL_alike_189 ⟨Nat.le_of_ble_eq_true rfl, Nat.le_of_ble_eq_true rfl⟩ (fun H locs hP hD hS => ?_)
      rw [hR]
      refine lv_icmp_ge (tgt := 237) hx hb dL_alike_192 (by decide) (fun c192 => ?_) (fun c192 => ?_)
      · -- 192 taken
        rw [nI_leI (by omega) (by omega)] at c192
        exact k237  _ _ _ hP hD hS (lv_sub hl [0, 1, 2] rfl)
      · -- 192 on
        rw [nI_leI (by omega) (by omega)] at c192
        refine lv_iload_n hx hb dL_alike_195 rfl (lv_at hl 2 rfl) ?_
        refine lv_if_eq (tgt := 237) hx hb dL_alike_196 (by decide) (fun c196 => ?_) (fun c196 => ?_)
        · -- 196 taken
          exact absurd c196 (by decide)
        · -- 196 on
          rw [show (0 : Int32) = nI 0 from rfl] at c196
          rw [nI_eq (by omega) (by omega)] at c196
          refine lv_aload_n hx hb dL_alike_199 rfl (lv_at hl 0 rfl) ?_
          refine lv_iload_n hx hb dL_alike_200 rfl (lv_at hl 3 rfl) ?_
          refine zkW (v := R 0 (i)) kC1 F (zwC1 hP hD hS hA) hK hX hZ (c_L_customer_0 l D cI cZ a H.size (B) (R) (E) (td) (q) (i) (by first | assumption | omega) (by first | assumption | omega) (by first | assumption | omega)) cw_customer_0 (by decide) rfl rfl hl.1 rfl (Nat.le_of_ble_eq_true rfl) dL_alike_201 ⟨Nat.le_of_ble_eq_true rfl, Nat.le_of_ble_eq_true rfl⟩ (fun H locs hP hD hS => ?_)
          refine lv_aload_n hx hb dL_alike_204 rfl (lv_at hl 1 rfl) ?_
          refine lv_iload_n hx hb dL_alike_205 rfl (lv_at hl 3 rfl) ?_
          refine zkW (v := R 0 (i)) kC2 F (zwC2 hP hD hS hA) hK hX hZ (c_L_customer_0 l D cI cZ g H.size (B) (R) (E) (td) (q) (i) (by first | assumption | omega) (by first | assumption | omega) (by first | assumption | omega)) cw_customer_0 (by decide) rfl rfl hl.1 rfl (Nat.le_of_ble_eq_true rfl) dL_alike_206 ⟨Nat.le_of_ble_eq_true rfl, Nat.le_of_ble_eq_true rfl⟩ (fun H locs hP hD hS => ?_)
          refine lv_icmp_ne (tgt := 229) hx hb dL_alike_209 (by decide) (fun c209 => ?_) (fun c209 => ?_)
          · -- 209 taken
            exact absurd rfl c209
          · -- 209 on
            refine lv_aload_n hx hb dL_alike_212 rfl (lv_at hl 0 rfl) ?_
            refine lv_iload_n hx hb dL_alike_213 rfl (lv_at hl 3 rfl) ?_
            refine zkW (v := R 3 (i)) kC1 F (zwC1 hP hD hS hA) hK hX hZ (c_L_unapplied_0 l D cI cZ a H.size (B) (R) (E) (td) (q) (i) (by first | assumption | omega) (by first | assumption | omega) (by first | assumption | omega)) cw_unapplied_0 (by decide) rfl rfl hl.1 rfl (Nat.le_of_ble_eq_true rfl) dL_alike_214 ⟨Nat.le_of_ble_eq_true rfl, Nat.le_of_ble_eq_true rfl⟩ (fun H locs hP hD hS => ?_)
            refine lv_aload_n hx hb dL_alike_217 rfl (lv_at hl 1 rfl) ?_
            refine lv_iload_n hx hb dL_alike_218 rfl (lv_at hl 3 rfl) ?_
            refine zkW (v := R 3 (i)) kC2 F (zwC2 hP hD hS hA) hK hX hZ (c_L_unapplied_0 l D cI cZ g H.size (B) (R) (E) (td) (q) (i) (by first | assumption | omega) (by first | assumption | omega) (by first | assumption | omega)) cw_unapplied_0 (by decide) rfl rfl hl.1 rfl (Nat.le_of_ble_eq_true rfl) dL_alike_219 ⟨Nat.le_of_ble_eq_true rfl, Nat.le_of_ble_eq_true rfl⟩ (fun H locs hP hD hS => ?_)
            refine lv_icmp_ne (tgt := 229) hx hb dL_alike_222 (by decide) (fun c222 => ?_) (fun c222 => ?_)
            · -- 222 taken
              exact absurd rfl c222
            · -- 222 on
              refine lv_iconst (v := nI (1)) hx hb dL_alike_225 (by decide) ?_
              refine lv_goto (tgt := 230) hx hb dL_alike_226 (by decide) ?_
              refine lv_istore_n (lv' := [(2, .int (nI (1))), (0, .ref (a 0)), (1, .ref (g 0)), (3, .int (nI (i)))]) hx hb dL_alike_230 rfl hl (by decide) rfl (fun ls hl => ?_)
              refine lv_iinc (v := nI (i + 1)) (lv' := [(3, .int (nI (i + 1))), (2, .int (nI (1))), (0, .ref (a 0)), (1, .ref (g 0))]) hx hb dL_alike_231 hl (k := 3) rfl (nI_1 _) (by decide) rfl (fun ls hl => ?_)
              refine lv_goto (tgt := 187) hx hb dL_alike_234 (by decide) ?_
              exact ih187 (i + 1) (by omega) (by omega) _ _ hP hD hS _ (lv_sub hl [2, 3, 1, 0] rfl)
  exact loop187 _ (0) (Nat.zero_le _) (Nat.lt_succ_self _) _ _ hP hD hS _ (lv_sub hl [1, 2, 3, 0] rfl)
set_option maxHeartbeats 8000000 in
set_option maxRecDepth 100000 in
theorem c_L_alike (l : Launch) (hfl : l.stackTraces = false) (D : va_G) (cI cZ : ClassId) (sz : Nat) (a g : Nat → Nat) (B R E : Nat → Nat → Int32) (td : Int32) (n : Nat) (q : Nat) (hB : B 11 0 = nI n) (hn : n ≤ 40) (hR : R 8 0 = nI q) (hq : q ≤ 30) : Met l yL_alike wsL_alike ({ frames := 9, cells := 0, slots := 0, locals := 190 } : Room) (va_Pc [.ref (a 0), .ref (g 0)] (PreX D cI cZ (wCC a g cI cZ B R E (td)) sz)) (va_Qi (fun (r : Int32) (_ : Unit) => r = 1) (fun (_ : Unit) => PostW D cI cZ (va_A (wCC a g cI cZ B R E (td)) sz) (wCC a g cI cZ B R E (td))) (va_A (wCC a g cI cZ B R E (td)) sz)) 0 0 (va_A (wCC a g cI cZ B R E (td)) sz) := by
  refine Met.ofW (cc := cL_alike) (maxL := 4) (ret := (some .boolean)) (by decide) rfl ?_
  intro p e s m args below meth c s₁ BB hml hv
  obtain ⟨rfl, ⟨hsz, hP, hK, hD0⟩, hX, hZ⟩ := hv
  have hx := BB.exec
  have hb := BB.bytes
  have hr := BB.returns
  have hts := atoms_spec (ws := wsL_alike) BB.pre
  have hown : s.vm.findClass RL = some m.cls := findClass_of_methodNamed BB.named
  have hlocks := BB.notSynchronized
  clear BB
  subst hsz
  have hD := hD0.self (sz := s.heap.size)
  clear hD0
  generalize hAe : va_A (wCC a g cI cZ B R E (td)) s.heap.size = A at hD hZ ⊢
  have hA : ∀ q : Nat, s.heap.size ≤ q → A q := fun q h => by rw [← hAe]; exact Or.inr h
  clear hAe
  have hl := lv_entry ([.ref (a 0), .ref (g 0)]) (n := 4) (Nat.le_of_ble_eq_true rfl)
  rw [lg_entry_eq]
  generalize (lg_sl ([.ref (a 0), .ref (g 0)]) ++ List.replicate (4 - (lg_sl ([.ref (a 0), .ref (g 0)])).length) Slot.unset).toArray = ls at hl ⊢
  have hl : lv_has ls 4 [(0, .ref (a 0)), (1, .ref (g 0))] := hl
  have F : CallFix p m c cL_alike 4 s ([.ref (a 0), .ref (g 0)] : List Value).toArray wsL_alike RL := ⟨hx, hb, hml, hown, hts⟩
  have hS : va_S A s.heap s.heap [] := va_S.rf
  refine al_a n q F hK hA hX hZ hfl hB hn hR hq hP hD hS hl (fun H locs ls hP hD hS hl => ?_)
  refine al_b n q F hK hA hX hZ hfl hB hn hR hq hP hD hS hl (fun H locs ls hP hD hS hl => ?_)
  refine al_c n q F hK hA hX hZ hfl hB hn hR hq hP hD hS hl (fun H locs ls hP hD hS hl => ?_)
  refine lv_iload_n hx hb dL_alike_237 rfl (lv_at hl 2 rfl) ?_
  exact W.zret (ty := .boolean) (v := nI (1)) hx hb hr (by decide) (fun t ht hW => ⟨⟨nI (1), (), rfl, rfl, by rw [ht]; exact hP, va_K.moved hW.alike hK, hD⟩, hS.F ht⟩) hS.2.2 dL_alike_238
