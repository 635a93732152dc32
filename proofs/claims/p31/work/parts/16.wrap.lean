theorem dL_bills_0 : decode cL_bills 0 = .ok (.aload_n 0, 1) := by decide +kernel
theorem dL_bills_1 : decode cL_bills 1 = .ok (.iload_n 1, 1) := by decide +kernel
theorem dL_bills_2 : decode cL_bills 2 = .ok (.iload_n 2, 1) := by decide +kernel
theorem dL_bills_3 : decode cL_bills 3 = .ok (.iload_n 3, 1) := by decide +kernel
theorem dL_bills_4 : decode cL_bills 4 = .ok (.iload 4, 2) := by decide +kernel
theorem dL_bills_6 : decode cL_bills 6 = .ok (.iload 5, 2) := by decide +kernel
theorem dL_bills_8 : decode cL_bills 8 = .ok (.invokevirtual 7, 3) := by decide +kernel
theorem dL_bills_11 : decode cL_bills 11 = .ok (.ireturn, 1) := by decide +kernel
theorem dL_bills_12 : decode cL_bills 12 = .ok (.astore 6, 2) := by decide +kernel
theorem dL_bills_14 : decode cL_bills 14 = .ok (.ldc 15, 2) := by decide +kernel
theorem dL_bills_16 : decode cL_bills 16 = .ok (.ireturn, 1) := by decide +kernel
theorem dL_bills_17 : decode cL_bills 17 = .ok (.astore 6, 2) := by decide +kernel
theorem dL_bills_19 : decode cL_bills 19 = .ok (.ldc 18, 2) := by decide +kernel
theorem dL_bills_21 : decode cL_bills 21 = .ok (.ireturn, 1) := by decide +kernel
theorem dL_bills_22 : decode cL_bills 22 = .ok (.astore 6, 2) := by decide +kernel
theorem dL_bills_24 : decode cL_bills 24 = .ok (.ldc 21, 2) := by decide +kernel
theorem dL_bills_26 : decode cL_bills 26 = .ok (.ireturn, 1) := by decide +kernel
theorem dL_receives_0 : decode cL_receives 0 = .ok (.aload_n 0, 1) := by decide +kernel
theorem dL_receives_1 : decode cL_receives 1 = .ok (.iload_n 1, 1) := by decide +kernel
theorem dL_receives_2 : decode cL_receives 2 = .ok (.iload_n 2, 1) := by decide +kernel
theorem dL_receives_3 : decode cL_receives 3 = .ok (.iload_n 3, 1) := by decide +kernel
theorem dL_receives_4 : decode cL_receives 4 = .ok (.invokevirtual 22, 3) := by decide +kernel
theorem dL_receives_7 : decode cL_receives 7 = .ok (.ireturn, 1) := by decide +kernel
theorem dL_receives_8 : decode cL_receives 8 = .ok (.astore 4, 2) := by decide +kernel
theorem dL_receives_10 : decode cL_receives 10 = .ok (.ldc 15, 2) := by decide +kernel
theorem dL_receives_12 : decode cL_receives 12 = .ok (.ireturn, 1) := by decide +kernel
theorem dL_receives_13 : decode cL_receives 13 = .ok (.astore 4, 2) := by decide +kernel
theorem dL_receives_15 : decode cL_receives 15 = .ok (.ldc 18, 2) := by decide +kernel
theorem dL_receives_17 : decode cL_receives 17 = .ok (.ireturn, 1) := by decide +kernel
theorem dL_receives_18 : decode cL_receives 18 = .ok (.astore 4, 2) := by decide +kernel
theorem dL_receives_20 : decode cL_receives 20 = .ok (.ldc 21, 2) := by decide +kernel
theorem dL_receives_22 : decode cL_receives 22 = .ok (.ireturn, 1) := by decide +kernel
theorem dL_assigns_0 : decode cL_assigns 0 = .ok (.aload_n 0, 1) := by decide +kernel
theorem dL_assigns_1 : decode cL_assigns 1 = .ok (.iload_n 1, 1) := by decide +kernel
theorem dL_assigns_2 : decode cL_assigns 2 = .ok (.iload_n 2, 1) := by decide +kernel
theorem dL_assigns_3 : decode cL_assigns 3 = .ok (.invokevirtual 26, 3) := by decide +kernel
theorem dL_assigns_6 : decode cL_assigns 6 = .ok (.ireturn, 1) := by decide +kernel
theorem dL_assigns_7 : decode cL_assigns 7 = .ok (.astore_n 3, 1) := by decide +kernel
theorem dL_assigns_8 : decode cL_assigns 8 = .ok (.ldc 15, 2) := by decide +kernel
theorem dL_assigns_10 : decode cL_assigns 10 = .ok (.ireturn, 1) := by decide +kernel
theorem dL_assigns_11 : decode cL_assigns 11 = .ok (.astore_n 3, 1) := by decide +kernel
theorem dL_assigns_12 : decode cL_assigns 12 = .ok (.ldc 21, 2) := by decide +kernel
theorem dL_assigns_14 : decode cL_assigns 14 = .ok (.ireturn, 1) := by decide +kernel
theorem dL_applies_0 : decode cL_applies 0 = .ok (.aload_n 0, 1) := by decide +kernel
theorem dL_applies_1 : decode cL_applies 1 = .ok (.iload_n 1, 1) := by decide +kernel
theorem dL_applies_2 : decode cL_applies 2 = .ok (.invokevirtual 30, 3) := by decide +kernel
theorem dL_applies_5 : decode cL_applies 5 = .ok (.ireturn, 1) := by decide +kernel
theorem dL_applies_6 : decode cL_applies 6 = .ok (.astore_n 2, 1) := by decide +kernel
theorem dL_applies_7 : decode cL_applies 7 = .ok (.ldc 15, 2) := by decide +kernel
theorem dL_applies_9 : decode cL_applies 9 = .ok (.ireturn, 1) := by decide +kernel
theorem dL_applies_10 : decode cL_applies 10 = .ok (.astore_n 2, 1) := by decide +kernel
theorem dL_applies_11 : decode cL_applies 11 = .ok (.ldc 21, 2) := by decide +kernel
theorem dL_applies_13 : decode cL_applies 13 = .ok (.ireturn, 1) := by decide +kernel
theorem dL_paysBack_0 : decode cL_paysBack 0 = .ok (.aload_n 0, 1) := by decide +kernel
theorem dL_paysBack_1 : decode cL_paysBack 1 = .ok (.iload_n 1, 1) := by decide +kernel
theorem dL_paysBack_2 : decode cL_paysBack 2 = .ok (.invokevirtual 34, 3) := by decide +kernel
theorem dL_paysBack_5 : decode cL_paysBack 5 = .ok (.ireturn, 1) := by decide +kernel
theorem dL_paysBack_6 : decode cL_paysBack 6 = .ok (.astore_n 2, 1) := by decide +kernel
theorem dL_paysBack_7 : decode cL_paysBack 7 = .ok (.ldc 15, 2) := by decide +kernel
theorem dL_paysBack_9 : decode cL_paysBack 9 = .ok (.ireturn, 1) := by decide +kernel
theorem dL_paysBack_10 : decode cL_paysBack 10 = .ok (.astore_n 2, 1) := by decide +kernel
theorem dL_paysBack_11 : decode cL_paysBack 11 = .ok (.ldc 21, 2) := by decide +kernel
theorem dL_paysBack_13 : decode cL_paysBack 13 = .ok (.ireturn, 1) := by decide +kernel
theorem dL_bounces_0 : decode cL_bounces 0 = .ok (.aload_n 0, 1) := by decide +kernel
theorem dL_bounces_1 : decode cL_bounces 1 = .ok (.iload_n 1, 1) := by decide +kernel
theorem dL_bounces_2 : decode cL_bounces 2 = .ok (.invokevirtual 37, 3) := by decide +kernel
theorem dL_bounces_5 : decode cL_bounces 5 = .ok (.ireturn, 1) := by decide +kernel
theorem dL_bounces_6 : decode cL_bounces 6 = .ok (.astore_n 2, 1) := by decide +kernel
theorem dL_bounces_7 : decode cL_bounces 7 = .ok (.ldc 15, 2) := by decide +kernel
theorem dL_bounces_9 : decode cL_bounces 9 = .ok (.ireturn, 1) := by decide +kernel
theorem dL_bounces_10 : decode cL_bounces 10 = .ok (.astore_n 2, 1) := by decide +kernel
theorem dL_bounces_11 : decode cL_bounces 11 = .ok (.ldc 21, 2) := by decide +kernel
theorem dL_bounces_13 : decode cL_bounces 13 = .ok (.ireturn, 1) := by decide +kernel
theorem dL_settles_0 : decode cL_settles 0 = .ok (.aload_n 0, 1) := by decide +kernel
theorem dL_settles_1 : decode cL_settles 1 = .ok (.iload_n 1, 1) := by decide +kernel
theorem dL_settles_2 : decode cL_settles 2 = .ok (.iload_n 2, 1) := by decide +kernel
theorem dL_settles_3 : decode cL_settles 3 = .ok (.invokevirtual 40, 3) := by decide +kernel
theorem dL_settles_6 : decode cL_settles 6 = .ok (.ireturn, 1) := by decide +kernel
theorem dL_settles_7 : decode cL_settles 7 = .ok (.astore_n 3, 1) := by decide +kernel
theorem dL_settles_8 : decode cL_settles 8 = .ok (.ldc 15, 2) := by decide +kernel
theorem dL_settles_10 : decode cL_settles 10 = .ok (.ireturn, 1) := by decide +kernel
theorem dL_settles_11 : decode cL_settles 11 = .ok (.astore_n 3, 1) := by decide +kernel
theorem dL_settles_12 : decode cL_settles 12 = .ok (.ldc 21, 2) := by decide +kernel
theorem dL_settles_14 : decode cL_settles 14 = .ok (.ireturn, 1) := by decide +kernel
theorem dL_advances_0 : decode cL_advances 0 = .ok (.aload_n 0, 1) := by decide +kernel
theorem dL_advances_1 : decode cL_advances 1 = .ok (.iload_n 1, 1) := by decide +kernel
theorem dL_advances_2 : decode cL_advances 2 = .ok (.invokevirtual 44, 3) := by decide +kernel
theorem dL_advances_5 : decode cL_advances 5 = .ok (.ireturn, 1) := by decide +kernel
theorem dL_advances_6 : decode cL_advances 6 = .ok (.astore_n 2, 1) := by decide +kernel
theorem dL_advances_7 : decode cL_advances 7 = .ok (.ldc 18, 2) := by decide +kernel
theorem dL_advances_9 : decode cL_advances 9 = .ok (.ireturn, 1) := by decide +kernel
theorem dL_open_0 : decode cL_open 0 = .ok (.aload_n 0, 1) := by decide +kernel
theorem dL_open_1 : decode cL_open 1 = .ok (.iload_n 1, 1) := by decide +kernel
theorem dL_open_2 : decode cL_open 2 = .ok (.invokevirtual 47, 3) := by decide +kernel
theorem dL_open_5 : decode cL_open 5 = .ok (.ireturn, 1) := by decide +kernel
theorem dL_open_6 : decode cL_open 6 = .ok (.astore_n 2, 1) := by decide +kernel
theorem dL_open_7 : decode cL_open 7 = .ok (.ldc 15, 2) := by decide +kernel
theorem dL_open_9 : decode cL_open 9 = .ok (.ireturn, 1) := by decide +kernel
theorem dL_due_0 : decode cL_due 0 = .ok (.aload_n 0, 1) := by decide +kernel
theorem dL_due_1 : decode cL_due 1 = .ok (.iload_n 1, 1) := by decide +kernel
theorem dL_due_2 : decode cL_due 2 = .ok (.invokevirtual 50, 3) := by decide +kernel
theorem dL_due_5 : decode cL_due 5 = .ok (.ireturn, 1) := by decide +kernel
theorem dL_due_6 : decode cL_due 6 = .ok (.astore_n 2, 1) := by decide +kernel
theorem dL_due_7 : decode cL_due 7 = .ok (.ldc 15, 2) := by decide +kernel
theorem dL_due_9 : decode cL_due 9 = .ok (.ireturn, 1) := by decide +kernel
theorem dL_paid_0 : decode cL_paid 0 = .ok (.aload_n 0, 1) := by decide +kernel
theorem dL_paid_1 : decode cL_paid 1 = .ok (.iload_n 1, 1) := by decide +kernel
theorem dL_paid_2 : decode cL_paid 2 = .ok (.invokevirtual 53, 3) := by decide +kernel
theorem dL_paid_5 : decode cL_paid 5 = .ok (.ireturn, 1) := by decide +kernel
theorem dL_paid_6 : decode cL_paid 6 = .ok (.astore_n 2, 1) := by decide +kernel
theorem dL_paid_7 : decode cL_paid 7 = .ok (.ldc 15, 2) := by decide +kernel
theorem dL_paid_9 : decode cL_paid 9 = .ok (.ireturn, 1) := by decide +kernel
theorem dL_taken_0 : decode cL_taken 0 = .ok (.aload_n 0, 1) := by decide +kernel
theorem dL_taken_1 : decode cL_taken 1 = .ok (.iload_n 1, 1) := by decide +kernel
theorem dL_taken_2 : decode cL_taken 2 = .ok (.invokevirtual 56, 3) := by decide +kernel
theorem dL_taken_5 : decode cL_taken 5 = .ok (.ireturn, 1) := by decide +kernel
theorem dL_taken_6 : decode cL_taken 6 = .ok (.astore_n 2, 1) := by decide +kernel
theorem dL_taken_7 : decode cL_taken 7 = .ok (.ldc 15, 2) := by decide +kernel
theorem dL_taken_9 : decode cL_taken 9 = .ok (.ireturn, 1) := by decide +kernel
theorem dL_disputed_0 : decode cL_disputed 0 = .ok (.aload_n 0, 1) := by decide +kernel
theorem dL_disputed_1 : decode cL_disputed 1 = .ok (.iload_n 1, 1) := by decide +kernel
theorem dL_disputed_2 : decode cL_disputed 2 = .ok (.invokevirtual 59, 3) := by decide +kernel
theorem dL_disputed_5 : decode cL_disputed 5 = .ok (.ireturn, 1) := by decide +kernel
theorem dL_disputed_6 : decode cL_disputed 6 = .ok (.astore_n 2, 1) := by decide +kernel
theorem dL_disputed_7 : decode cL_disputed 7 = .ok (.ldc 15, 2) := by decide +kernel
theorem dL_disputed_9 : decode cL_disputed 9 = .ok (.ireturn, 1) := by decide +kernel
theorem dL_written_0 : decode cL_written 0 = .ok (.aload_n 0, 1) := by decide +kernel
theorem dL_written_1 : decode cL_written 1 = .ok (.iload_n 1, 1) := by decide +kernel
theorem dL_written_2 : decode cL_written 2 = .ok (.invokevirtual 62, 3) := by decide +kernel
theorem dL_written_5 : decode cL_written 5 = .ok (.ireturn, 1) := by decide +kernel
theorem dL_written_6 : decode cL_written 6 = .ok (.astore_n 2, 1) := by decide +kernel
theorem dL_written_7 : decode cL_written 7 = .ok (.ldc 15, 2) := by decide +kernel
theorem dL_written_9 : decode cL_written 9 = .ok (.ireturn, 1) := by decide +kernel
theorem dL_openOf_0 : decode cL_openOf 0 = .ok (.aload_n 0, 1) := by decide +kernel
theorem dL_openOf_1 : decode cL_openOf 1 = .ok (.iload_n 1, 1) := by decide +kernel
theorem dL_openOf_2 : decode cL_openOf 2 = .ok (.invokevirtual 65, 3) := by decide +kernel
theorem dL_openOf_5 : decode cL_openOf 5 = .ok (.ireturn, 1) := by decide +kernel
theorem dL_openOf_6 : decode cL_openOf 6 = .ok (.astore_n 2, 1) := by decide +kernel
theorem dL_openOf_7 : decode cL_openOf 7 = .ok (.ldc 15, 2) := by decide +kernel
theorem dL_openOf_9 : decode cL_openOf 9 = .ok (.ireturn, 1) := by decide +kernel
theorem dL_setFor_0 : decode cL_setFor 0 = .ok (.aload_n 0, 1) := by decide +kernel
theorem dL_setFor_1 : decode cL_setFor 1 = .ok (.iload_n 1, 1) := by decide +kernel
theorem dL_setFor_2 : decode cL_setFor 2 = .ok (.iload_n 2, 1) := by decide +kernel
theorem dL_setFor_3 : decode cL_setFor 3 = .ok (.iload_n 3, 1) := by decide +kernel
theorem dL_setFor_4 : decode cL_setFor 4 = .ok (.invokevirtual 68, 3) := by decide +kernel
theorem dL_setFor_7 : decode cL_setFor 7 = .ok (.ireturn, 1) := by decide +kernel
theorem dL_setFor_8 : decode cL_setFor 8 = .ok (.astore 4, 2) := by decide +kernel
theorem dL_setFor_10 : decode cL_setFor 10 = .ok (.ldc 15, 2) := by decide +kernel
theorem dL_setFor_12 : decode cL_setFor 12 = .ok (.ireturn, 1) := by decide +kernel
theorem dL_setFor_13 : decode cL_setFor 13 = .ok (.astore 4, 2) := by decide +kernel
theorem dL_setFor_15 : decode cL_setFor 15 = .ok (.ldc 18, 2) := by decide +kernel
theorem dL_setFor_17 : decode cL_setFor 17 = .ok (.ireturn, 1) := by decide +kernel
theorem dL_customer_0 : decode cL_customer 0 = .ok (.aload_n 0, 1) := by decide +kernel
theorem dL_customer_1 : decode cL_customer 1 = .ok (.iload_n 1, 1) := by decide +kernel
theorem dL_customer_2 : decode cL_customer 2 = .ok (.invokevirtual 71, 3) := by decide +kernel
theorem dL_customer_5 : decode cL_customer 5 = .ok (.ireturn, 1) := by decide +kernel
theorem dL_customer_6 : decode cL_customer 6 = .ok (.astore_n 2, 1) := by decide +kernel
theorem dL_customer_7 : decode cL_customer 7 = .ok (.ldc 15, 2) := by decide +kernel
theorem dL_customer_9 : decode cL_customer 9 = .ok (.ireturn, 1) := by decide +kernel
theorem dL_appliedTo_0 : decode cL_appliedTo 0 = .ok (.aload_n 0, 1) := by decide +kernel
theorem dL_appliedTo_1 : decode cL_appliedTo 1 = .ok (.iload_n 1, 1) := by decide +kernel
theorem dL_appliedTo_2 : decode cL_appliedTo 2 = .ok (.iload_n 2, 1) := by decide +kernel
theorem dL_appliedTo_3 : decode cL_appliedTo 3 = .ok (.invokevirtual 74, 3) := by decide +kernel
theorem dL_appliedTo_6 : decode cL_appliedTo 6 = .ok (.ireturn, 1) := by decide +kernel
theorem dL_appliedTo_7 : decode cL_appliedTo 7 = .ok (.astore_n 3, 1) := by decide +kernel
theorem dL_appliedTo_8 : decode cL_appliedTo 8 = .ok (.ldc 15, 2) := by decide +kernel
theorem dL_appliedTo_10 : decode cL_appliedTo 10 = .ok (.ireturn, 1) := by decide +kernel
theorem dL_unapplied_0 : decode cL_unapplied 0 = .ok (.aload_n 0, 1) := by decide +kernel
theorem dL_unapplied_1 : decode cL_unapplied 1 = .ok (.iload_n 1, 1) := by decide +kernel
theorem dL_unapplied_2 : decode cL_unapplied 2 = .ok (.invokevirtual 77, 3) := by decide +kernel
theorem dL_unapplied_5 : decode cL_unapplied 5 = .ok (.ireturn, 1) := by decide +kernel
theorem dL_unapplied_6 : decode cL_unapplied 6 = .ok (.astore_n 2, 1) := by decide +kernel
theorem dL_unapplied_7 : decode cL_unapplied 7 = .ok (.ldc 15, 2) := by decide +kernel
theorem dL_unapplied_9 : decode cL_unapplied 9 = .ok (.ireturn, 1) := by decide +kernel
theorem dL_bounced_0 : decode cL_bounced 0 = .ok (.aload_n 0, 1) := by decide +kernel
theorem dL_bounced_1 : decode cL_bounced 1 = .ok (.iload_n 1, 1) := by decide +kernel
theorem dL_bounced_2 : decode cL_bounced 2 = .ok (.invokevirtual 80, 3) := by decide +kernel
theorem dL_bounced_5 : decode cL_bounced 5 = .ok (.ifCond .eq 7, 3) := by decide +kernel
theorem dL_bounced_8 : decode cL_bounced 8 = .ok (.iconst 1, 1) := by decide +kernel
theorem dL_bounced_9 : decode cL_bounced 9 = .ok (.goto 4, 3) := by decide +kernel
theorem dL_bounced_12 : decode cL_bounced 12 = .ok (.iconst 0, 1) := by decide +kernel
theorem dL_bounced_13 : decode cL_bounced 13 = .ok (.ireturn, 1) := by decide +kernel
theorem dL_bounced_14 : decode cL_bounced 14 = .ok (.astore_n 2, 1) := by decide +kernel
theorem dL_bounced_15 : decode cL_bounced 15 = .ok (.ldc 15, 2) := by decide +kernel
theorem dL_bounced_17 : decode cL_bounced 17 = .ok (.ireturn, 1) := by decide +kernel
theorem billK_c {n : Nat} {cu am rf rt dy : Int32} : billK n cu am rf rt dy = 0 ∨ billK n cu am rf rt dy = 1 ∨ billK n cu am rf rt dy = 2 ∨ billK n cu am rf rt dy = 3 := by
  unfold billK
  repeat' split
  all_goals simp
theorem rcvK_c {n : Nat} {cu am rf : Int32} : rcvK n cu am rf = 0 ∨ rcvK n cu am rf = 1 ∨ rcvK n cu am rf = 2 ∨ rcvK n cu am rf = 3 := by
  unfold rcvK
  repeat' split
  all_goals simp
theorem stfK_c {cu sm pl : Int32} : stfK cu sm pl = 0 ∨ stfK cu sm pl = 1 ∨ stfK cu sm pl = 2 := by
  unfold stfK
  repeat' split
  all_goals simp
theorem asgK_c {R : Nat → Nat → Int32} {vx cu : Int32} : asgK R vx cu = 0 ∨ asgK R vx cu = 1 ∨ asgK R vx cu = 2 := by
  unfold asgK
  repeat' split
  all_goals simp
theorem aplK_c {R : Nat → Nat → Int32} {vx : Int32} : aplK R vx = 0 ∨ aplK R vx = 1 ∨ aplK R vx = 2 := by
  unfold aplK
  repeat' split
  all_goals simp
theorem pbkK_c {R : Nat → Nat → Int32} {vx : Int32} : pbkK R vx = 0 ∨ pbkK R vx = 1 ∨ pbkK R vx = 2 := by
  unfold pbkK
  repeat' split
  all_goals simp
theorem bncK_c {R : Nat → Nat → Int32} {vx : Int32} : bncK R vx = 0 ∨ bncK R vx = 1 ∨ bncK R vx = 2 := by
  unfold bncK
  repeat' split
  all_goals simp
theorem stlK_c {B : Nat → Nat → Int32} {vx : Int32} : stlK B vx = 0 ∨ stlK B vx = 1 ∨ stlK B vx = 2 := by
  unfold stlK
  repeat' split
  all_goals simp
set_option maxHeartbeats 4000000 in
set_option maxRecDepth 100000 in
theorem c_L_bills_0 (l : Launch) (D : va_G) (cI cZ : ClassId) (a : Nat → Nat) (sz : Nat) (B : Nat → Nat → Int32) (R : Nat → Nat → Int32) (E : Nat → Nat → Int32) (td : Int32) (n : Nat) (cu : Int32) (am : Int32) (rf : Int32) (rt : Int32) (dy : Int32) (hB : B 11 0 = nI n) (hn : n < 40) (h1 : ¬ cu < 0) (h2 : cu < 8) (h3 : ¬ am < 1) (h4 : am ≤ 1000000) (h5 : ¬ rf < 1) (h6 : rf ≤ 9999) (h7 : ¬ rt < 0) (h8 : rt ≤ 10000) (h9 : ¬ dy < 0) (h10 : dy ≤ 90) : Met l yL_bills wsL_bills ({ frames := 2, cells := 0, slots := 0, locals := 51 } : Room) (va_Pc [.ref (a 0), .int (cu), .int (am), .int (rf), .int (rt), .int (dy)] (PreX D cI cZ (wCA a cI cZ B R E (td)) sz)) (va_Qi (fun (r : Int32) (_ : Unit) => r = nI n) (fun (_ : Unit) => PostW D cI cZ (va_A (wCA a cI cZ B R E (td)) sz) (wCA a cI cZ (addB B n cu am rf (dcO am rt) (td + dy)) R E (td))) (va_A (wCA a cI cZ B R E (td)) sz)) 0 0 (va_A (wCA a cI cZ B R E (td)) sz) := by
  refine va_MetW (cc := cL_bills) (maxL := 7) (ret := (some .int)) (hh := [(0, 11, 12, 13), (0, 11, 17, 16), (0, 11, 22, 19)]) (by decide) rfl ?_
  intro p e s m args below meth c s₁ BB hml hv
  obtain ⟨rfl, ⟨hsz, hP, hK, hD0⟩, hX, hZ⟩ := hv
  have hx := BB.exec
  have hb := BB.bytes
  have hr := BB.returns
  have hts := atoms_spec (ws := wsL_bills) BB.pre
  have hown : s.vm.findClass RL = some m.cls := findClass_of_methodNamed BB.named
  have hlocks := BB.notSynchronized
  clear BB
  subst hsz
  have hD := hD0.self (sz := s.heap.size)
  clear hD0
  generalize hAe : va_A (wCA a cI cZ B R E (td)) s.heap.size = A at hD hZ ⊢
  have hA : ∀ q : Nat, s.heap.size ≤ q → A q := fun q h => by rw [← hAe]; exact Or.inr h
  clear hAe
  have hl := lv_entry ([.ref (a 0), .int (cu), .int (am), .int (rf), .int (rt), .int (dy)]) (n := 7) (Nat.le_of_ble_eq_true rfl)
  rw [lg_entry_eq]
  generalize (lg_sl ([.ref (a 0), .int (cu), .int (am), .int (rf), .int (rt), .int (dy)]) ++ List.replicate (7 - (lg_sl ([.ref (a 0), .int (cu), .int (am), .int (rf), .int (rt), .int (dy)])).length) Slot.unset).toArray = ls at hl ⊢
  have hl : lv_has ls 7 [(0, .ref (a 0)), (1, .int (cu)), (2, .int (am)), (3, .int (rf)), (4, .int (rt)), (5, .int (dy))] := hl
  generalize hHe : s.heap = H at hP ⊢
  have hS : va_S A s.heap H [] := by rw [← hHe]; exact va_S.rf
  clear hHe
  generalize hLe : ([] : List Loc) = locs at hS ⊢
  clear hLe
  refine lv_aload_n hx hb dL_bills_0 rfl (lv_at hl 0 rfl) ?_
  refine lv_iload_n hx hb dL_bills_1 rfl (lv_at hl 1 rfl) ?_
  refine lv_iload_n hx hb dL_bills_2 rfl (lv_at hl 2 rfl) ?_
  refine lv_iload_n hx hb dL_bills_3 rfl (lv_at hl 3 rfl) ?_
  refine lv_iload hx hb dL_bills_4 (lv_at hl 4 rfl) ?_
  refine lv_iload hx hb dL_bills_6 (lv_at hl 5 rfl) ?_
  refine zcVi (ci := 3) (q0 := 0) (wf := (fun (u : Nat → Nat → Int32) => (wCA a cI cZ u R E (td)))) (List.range 26) ⟨hx, hb, hml, hown, hts⟩ (zwAll 26 (by decide) rfl hP hD hS hA) hK (c_X3_bill l D cI cZ a H.size (B) (R) (E) (td) (n) (cu) (am) (rf) (rt) (dy) (by first | assumption | omega) (by first | assumption | omega) (by first | assumption | omega) (by first | assumption | omega) (by first | assumption | omega) (by first | assumption | omega) (by first | assumption | omega) (by first | assumption | omega) (by first | assumption | omega) (by first | assumption | omega) (by first | assumption | omega) (by first | assumption | omega)) (cwV 5 hts gL_bills_X3_bill rfl rfl rfl (by decide +kernel) ⟨Nat.le_of_ble_eq_true rfl, Nat.le_of_ble_eq_true rfl⟩) rfl rfl (by decide) (fun _ => rfl) rfl hl.1 rfl (Nat.le_of_ble_eq_true rfl) dL_bills_8 ⟨Nat.le_of_ble_eq_true rfl, Nat.le_of_ble_eq_true rfl⟩ (fun r8 u H locs hw hP hD hS => ?_)
  obtain ⟨rfl, rfl⟩ := hw
  have hP : va_P D vwCl (wCA a cI cZ (addB (B) n (cu) (am) (rf) (dcO (am) (rt)) ((td) + (dy))) R E (td)) H := hP
  have hD : va_D A (wCA a cI cZ (addB (B) n (cu) (am) (rf) (dcO (am) (rt)) ((td) + (dy))) R E (td)) := hD
  exact W.iret (v := nI n) hx hb hr (fun t ht hW => ⟨⟨nI n, (), rfl, rfl, by rw [ht]; exact hP, va_K.moved hW.alike hK, hD⟩, hS.F ht⟩) hS.2.2 dL_bills_11
set_option maxHeartbeats 4000000 in
set_option maxRecDepth 100000 in
theorem c_L_bills_k (l : Launch) (hfl : l.stackTraces = false) (D : va_G) (cI cZ : ClassId) (a : Nat → Nat) (sz : Nat) (B : Nat → Nat → Int32) (R : Nat → Nat → Int32) (E : Nat → Nat → Int32) (td : Int32) (n : Nat) (cu : Int32) (am : Int32) (rf : Int32) (rt : Int32) (dy : Int32) (kk : Nat) (rv : Int32) (hB : B 11 0 = nI n) (hn : n ≤ 40) (hk : billK n cu am rf rt dy = kk) (h0 : ¬ kk = 0) (hv : cdA kk = rv) : Met l yL_bills wsL_bills ({ frames := 8, cells := 1, slots := 6, locals := 137 } : Room) (va_Pc [.ref (a 0), .int (cu), .int (am), .int (rf), .int (rt), .int (dy)] (PreX D cI cZ (wCA a cI cZ B R E (td)) sz)) (va_Qi (fun (r : Int32) (_ : Unit) => r = rv) (fun (_ : Unit) => PostW D cI cZ (va_A (wCA a cI cZ B R E (td)) sz) (wCA a cI cZ B R E (td))) (va_A (wCA a cI cZ B R E (td)) sz)) 1 6 (va_A (wCA a cI cZ B R E (td)) sz) := by
  refine va_MetW (cc := cL_bills) (maxL := 7) (ret := (some .int)) (hh := [(0, 11, 12, 13), (0, 11, 17, 16), (0, 11, 22, 19)]) (by decide) rfl ?_
  intro p e s m args below meth c s₁ BB hml hv
  obtain ⟨rfl, ⟨hsz, hP, hK, hD0⟩, hX, hZ⟩ := hv
  have hx := BB.exec
  have hb := BB.bytes
  have hr := BB.returns
  have hts := atoms_spec (ws := wsL_bills) BB.pre
  have hown : s.vm.findClass RL = some m.cls := findClass_of_methodNamed BB.named
  have hlocks := BB.notSynchronized
  have htab : c.exceptionTable.toList = tableOf [(0, 11, 12, 13), (0, 11, 17, 16), (0, 11, 22, 19)] := vx_table (x := yL_bills) BB (hts (.codeWith yL_bills cL_bills 7 (some .int) [(0, 11, 12, 13), (0, 11, 17, 16), (0, 11, 22, 19)]) List.mem_cons_self)
  clear BB
  subst hsz
  have hD := hD0.self (sz := s.heap.size)
  clear hD0
  generalize hAe : va_A (wCA a cI cZ B R E (td)) s.heap.size = A at hD hZ ⊢
  have hA : ∀ q : Nat, s.heap.size ≤ q → A q := fun q h => by rw [← hAe]; exact Or.inr h
  clear hAe
  have hl := lv_entry ([.ref (a 0), .int (cu), .int (am), .int (rf), .int (rt), .int (dy)]) (n := 7) (Nat.le_of_ble_eq_true rfl)
  rw [lg_entry_eq]
  generalize (lg_sl ([.ref (a 0), .int (cu), .int (am), .int (rf), .int (rt), .int (dy)]) ++ List.replicate (7 - (lg_sl ([.ref (a 0), .int (cu), .int (am), .int (rf), .int (rt), .int (dy)])).length) Slot.unset).toArray = ls at hl ⊢
  have hl : lv_has ls 7 [(0, .ref (a 0)), (1, .int (cu)), (2, .int (am)), (3, .int (rf)), (4, .int (rt)), (5, .int (dy))] := hl
  generalize hHe : s.heap = H at hP ⊢
  have hS : va_S A s.heap H [] := by rw [← hHe]; exact va_S.rf
  clear hHe
  generalize hLe : ([] : List Loc) = locs at hS ⊢
  clear hLe
  refine lv_aload_n hx hb dL_bills_0 rfl (lv_at hl 0 rfl) ?_
  refine lv_iload_n hx hb dL_bills_1 rfl (lv_at hl 1 rfl) ?_
  refine lv_iload_n hx hb dL_bills_2 rfl (lv_at hl 2 rfl) ?_
  refine lv_iload_n hx hb dL_bills_3 rfl (lv_at hl 3 rfl) ?_
  refine lv_iload hx hb dL_bills_4 (lv_at hl 4 rfl) ?_
  refine lv_iload hx hb dL_bills_6 (lv_at hl 5 rfl) ?_
  have hkc : billK n cu am rf rt dy = kk := hk
  rcases (show billK n cu am rf rt dy = 0 ∨ billK n cu am rf rt dy = 1 ∨ billK n cu am rf rt dy = 2 ∨ billK n cu am rf rt dy = 3 from billK_c).resolve_left (fun z => h0 (hkc.symm.trans z)) with hk1 | hk2 | hk3
  · -- 1
    refine zxV (ci := 3) (q0 := 0) kCA ⟨hx, hb, hml, hown, hts⟩ (zwCA hP hD hS hA) hK hX hZ (x_X3_bill l hfl D cI cZ a H.size (B) (R) (E) (td) (n) (cu) (am) (rf) (rt) (dy) eI (hB) (hn) (fun z => h0 (hkc.symm.trans z)) (by rw [hk1]; rfl)) (cwV 5 hts gL_bills_X3_bill rfl rfl rfl (by decide +kernel) ⟨Nat.le_of_ble_eq_true rfl, Nat.le_of_ble_eq_true rfl⟩) rfl rfl (by decide) rfl rfl hl.1 rfl (Nat.le_of_ble_eq_true rfl) dL_bills_8 ⟨Nat.le_of_ble_eq_true rfl, Nat.le_of_ble_eq_true rfl⟩ (fun ce q9 H locs hP hD hS hce hcv hcl => ?_)
    refine vx_catch (E := eI) (name := eI) hown [] ⟨0, 11, 12, 13⟩ [⟨0, 11, 17, 16⟩, ⟨0, 11, 22, 19⟩] htab (fun z hz => nomatch hz) rfl (by decide) (hts (.classLink RL 13 "java/lang/IndexOutOfBoundsException") (by decide +kernel)) (va_Nw.use rfl (hX.1.2.1)) hce hcv hcl ?_
    refine lv_astore (lv' := [(6, .ref (q9)), (0, .ref (a 0)), (1, .int (cu)), (2, .int (am)), (3, .int (rf)), (4, .int (rt)), (5, .int (dy))]) hx hb dL_bills_12 hl (by decide) rfl (fun ls hl => ?_)
    refine lv_ldc (v := -2000000001) hx hb hown (hts (.constant RL 15 (-2000000001)) (by decide +kernel)) dL_bills_14 ?_
    exact W.iret (v := (-2000000001)) hx hb hr (fun t ht hW => ⟨⟨(-2000000001), (), rfl, (by rw [← hv, ← hkc, hk1]; rfl), by rw [ht]; exact hP, va_K.moved hW.alike hK, hD⟩, hS.F ht⟩) hS.2.2 dL_bills_16
  · -- 2
    refine zxV (ci := 3) (q0 := 0) kCA ⟨hx, hb, hml, hown, hts⟩ (zwCA hP hD hS hA) hK hX hZ (x_X3_bill l hfl D cI cZ a H.size (B) (R) (E) (td) (n) (cu) (am) (rf) (rt) (dy) eA (hB) (hn) (fun z => h0 (hkc.symm.trans z)) (by rw [hk2]; rfl)) (cwV 5 hts gL_bills_X3_bill rfl rfl rfl (by decide +kernel) ⟨Nat.le_of_ble_eq_true rfl, Nat.le_of_ble_eq_true rfl⟩) rfl rfl (by decide) rfl rfl hl.1 rfl (Nat.le_of_ble_eq_true rfl) dL_bills_8 ⟨Nat.le_of_ble_eq_true rfl, Nat.le_of_ble_eq_true rfl⟩ (fun ce q9 H locs hP hD hS hce hcv hcl => ?_)
    refine vx_catch (E := eA) (name := eA) hown [⟨0, 11, 12, 13⟩] ⟨0, 11, 17, 16⟩ [⟨0, 11, 22, 19⟩] htab (List.forall_mem_cons.mpr ⟨Or.inr ⟨by decide, eI, hts (.classLink RL 13 "java/lang/IndexOutOfBoundsException") (by decide +kernel), hX.2.2.1⟩, fun z hz => nomatch hz⟩) rfl (by decide) (hts (.classLink RL 16 "java/lang/IllegalArgumentException") (by decide +kernel)) (va_Nw.use rfl (hX.1.2.2.1)) hce hcv hcl ?_
    refine lv_astore (lv' := [(6, .ref (q9)), (0, .ref (a 0)), (1, .int (cu)), (2, .int (am)), (3, .int (rf)), (4, .int (rt)), (5, .int (dy))]) hx hb dL_bills_17 hl (by decide) rfl (fun ls hl => ?_)
    refine lv_ldc (v := -2000000002) hx hb hown (hts (.constant RL 18 (-2000000002)) (by decide +kernel)) dL_bills_19 ?_
    exact W.iret (v := (-2000000002)) hx hb hr (fun t ht hW => ⟨⟨(-2000000002), (), rfl, (by rw [← hv, ← hkc, hk2]; rfl), by rw [ht]; exact hP, va_K.moved hW.alike hK, hD⟩, hS.F ht⟩) hS.2.2 dL_bills_21
  · -- 3
    refine zxV (ci := 3) (q0 := 0) kCA ⟨hx, hb, hml, hown, hts⟩ (zwCA hP hD hS hA) hK hX hZ (x_X3_bill l hfl D cI cZ a H.size (B) (R) (E) (td) (n) (cu) (am) (rf) (rt) (dy) eS (hB) (hn) (fun z => h0 (hkc.symm.trans z)) (by rw [hk3]; rfl)) (cwV 5 hts gL_bills_X3_bill rfl rfl rfl (by decide +kernel) ⟨Nat.le_of_ble_eq_true rfl, Nat.le_of_ble_eq_true rfl⟩) rfl rfl (by decide) rfl rfl hl.1 rfl (Nat.le_of_ble_eq_true rfl) dL_bills_8 ⟨Nat.le_of_ble_eq_true rfl, Nat.le_of_ble_eq_true rfl⟩ (fun ce q9 H locs hP hD hS hce hcv hcl => ?_)
    refine vx_catch (E := eS) (name := eS) hown [⟨0, 11, 12, 13⟩, ⟨0, 11, 17, 16⟩] ⟨0, 11, 22, 19⟩ [] htab (List.forall_mem_cons.mpr ⟨Or.inr ⟨by decide, eI, hts (.classLink RL 13 "java/lang/IndexOutOfBoundsException") (by decide +kernel), hX.2.2.2.1⟩, List.forall_mem_cons.mpr ⟨Or.inr ⟨by decide, eA, hts (.classLink RL 16 "java/lang/IllegalArgumentException") (by decide +kernel), hX.2.2.2.2⟩, fun z hz => nomatch hz⟩⟩) rfl (by decide) (hts (.classLink RL 19 "java/lang/IllegalStateException") (by decide +kernel)) (va_Nw.use rfl (hX.1.2.2.2)) hce hcv hcl ?_
    refine lv_astore (lv' := [(6, .ref (q9)), (0, .ref (a 0)), (1, .int (cu)), (2, .int (am)), (3, .int (rf)), (4, .int (rt)), (5, .int (dy))]) hx hb dL_bills_22 hl (by decide) rfl (fun ls hl => ?_)
    refine lv_ldc (v := -2000000003) hx hb hown (hts (.constant RL 21 (-2000000003)) (by decide +kernel)) dL_bills_24 ?_
    exact W.iret (v := (-2000000003)) hx hb hr (fun t ht hW => ⟨⟨(-2000000003), (), rfl, (by rw [← hv, ← hkc, hk3]; rfl), by rw [ht]; exact hP, va_K.moved hW.alike hK, hD⟩, hS.F ht⟩) hS.2.2 dL_bills_26
set_option maxHeartbeats 4000000 in
set_option maxRecDepth 100000 in
theorem c_L_receives_0 (l : Launch) (D : va_G) (cI cZ : ClassId) (a : Nat → Nat) (sz : Nat) (B : Nat → Nat → Int32) (R : Nat → Nat → Int32) (E : Nat → Nat → Int32) (td : Int32) (n : Nat) (q : Nat) (cu : Int32) (am : Int32) (rf : Int32) (hB : B 11 0 = nI n) (hn : n ≤ 40) (hR : R 8 0 = nI q) (hq : q < 30) (hcu : cu = -1 ∨ (¬ cu < 0 ∧ cu < 8)) (h3 : ¬ am < 1) (h4 : am ≤ 1000000) (h5 : ¬ rf < 0) (h6 : rf ≤ 9999) : Met l yL_receives wsL_receives ({ frames := 7, cells := 0, slots := 0, locals := 160 } : Room) (va_Pc [.ref (a 0), .int (cu), .int (am), .int (rf)] (PreX D cI cZ (wCA a cI cZ B R E (td)) sz)) (va_Qi (fun (r : Int32) (_ : Unit) => r = nI q) (fun (_ : Unit) => PostW D cI cZ (va_A (wCA a cI cZ B R E (td)) sz) (wCA a cI cZ ((rcvS B R E q cu am rf n td).1) ((rcvS B R E q cu am rf n td).2.1) ((rcvS B R E q cu am rf n td).2.2) (td))) (va_A (wCA a cI cZ B R E (td)) sz)) 0 0 (va_A (wCA a cI cZ B R E (td)) sz) := by
  refine va_MetW (cc := cL_receives) (maxL := 5) (ret := (some .int)) (hh := [(0, 7, 8, 13), (0, 7, 13, 16), (0, 7, 18, 19)]) (by decide) rfl ?_
  intro p e s m args below meth c s₁ BB hml hv
  obtain ⟨rfl, ⟨hsz, hP, hK, hD0⟩, hX, hZ⟩ := hv
  have hx := BB.exec
  have hb := BB.bytes
  have hr := BB.returns
  have hts := atoms_spec (ws := wsL_receives) BB.pre
  have hown : s.vm.findClass RL = some m.cls := findClass_of_methodNamed BB.named
  have hlocks := BB.notSynchronized
  clear BB
  subst hsz
  have hD := hD0.self (sz := s.heap.size)
  clear hD0
  generalize hAe : va_A (wCA a cI cZ B R E (td)) s.heap.size = A at hD hZ ⊢
  have hA : ∀ q : Nat, s.heap.size ≤ q → A q := fun q h => by rw [← hAe]; exact Or.inr h
  clear hAe
  have hl := lv_entry ([.ref (a 0), .int (cu), .int (am), .int (rf)]) (n := 5) (Nat.le_of_ble_eq_true rfl)
  rw [lg_entry_eq]
  generalize (lg_sl ([.ref (a 0), .int (cu), .int (am), .int (rf)]) ++ List.replicate (5 - (lg_sl ([.ref (a 0), .int (cu), .int (am), .int (rf)])).length) Slot.unset).toArray = ls at hl ⊢
  have hl : lv_has ls 5 [(0, .ref (a 0)), (1, .int (cu)), (2, .int (am)), (3, .int (rf))] := hl
  generalize hHe : s.heap = H at hP ⊢
  have hS : va_S A s.heap H [] := by rw [← hHe]; exact va_S.rf
  clear hHe
  generalize hLe : ([] : List Loc) = locs at hS ⊢
  clear hLe
  refine lv_aload_n hx hb dL_receives_0 rfl (lv_at hl 0 rfl) ?_
  refine lv_iload_n hx hb dL_receives_1 rfl (lv_at hl 1 rfl) ?_
  refine lv_iload_n hx hb dL_receives_2 rfl (lv_at hl 2 rfl) ?_
  refine lv_iload_n hx hb dL_receives_3 rfl (lv_at hl 3 rfl) ?_
  refine zcVi (ci := 3) (q0 := 0) (wf := (fun (u : (Nat → Nat → Int32) × (Nat → Nat → Int32) × (Nat → Nat → Int32)) => (wCA a cI cZ (u.1) (u.2.1) (u.2.2) (td)))) (List.range 26) ⟨hx, hb, hml, hown, hts⟩ (zwAll 26 (by decide) rfl hP hD hS hA) hK (c_X3_receive l D cI cZ a H.size (B) (R) (E) (td) (n) (q) (cu) (am) (rf) (by first | assumption | omega) (by first | assumption | omega) (by first | assumption | omega) (by first | assumption | omega) (by first | assumption | omega) (by first | assumption | omega) (by first | assumption | omega) (by first | assumption | omega) (by first | assumption | omega)) (cwV 3 hts gL_receives_X3_receive rfl rfl rfl (by decide +kernel) ⟨Nat.le_of_ble_eq_true rfl, Nat.le_of_ble_eq_true rfl⟩) rfl rfl (by decide) (fun _ => rfl) rfl hl.1 rfl (Nat.le_of_ble_eq_true rfl) dL_receives_4 ⟨Nat.le_of_ble_eq_true rfl, Nat.le_of_ble_eq_true rfl⟩ (fun r4 u H locs hw hP hD hS => ?_)
  obtain ⟨rfl, rfl⟩ := hw
  have hP : va_P D vwCl (wCA a cI cZ ((rcvS (B) (R) (E) q (cu) (am) (rf) n (td)).1) ((rcvS (B) (R) (E) q (cu) (am) (rf) n (td)).2.1) ((rcvS (B) (R) (E) q (cu) (am) (rf) n (td)).2.2) (td)) H := hP
  have hD : va_D A (wCA a cI cZ ((rcvS (B) (R) (E) q (cu) (am) (rf) n (td)).1) ((rcvS (B) (R) (E) q (cu) (am) (rf) n (td)).2.1) ((rcvS (B) (R) (E) q (cu) (am) (rf) n (td)).2.2) (td)) := hD
  exact W.iret (v := nI q) hx hb hr (fun t ht hW => ⟨⟨nI q, (), rfl, rfl, by rw [ht]; exact hP, va_K.moved hW.alike hK, hD⟩, hS.F ht⟩) hS.2.2 dL_receives_7
set_option maxHeartbeats 4000000 in
set_option maxRecDepth 100000 in
theorem c_L_receives_k (l : Launch) (hfl : l.stackTraces = false) (D : va_G) (cI cZ : ClassId) (a : Nat → Nat) (sz : Nat) (B : Nat → Nat → Int32) (R : Nat → Nat → Int32) (E : Nat → Nat → Int32) (td : Int32) (q : Nat) (cu : Int32) (am : Int32) (rf : Int32) (kk : Nat) (rv : Int32) (hR : R 8 0 = nI q) (hq : q ≤ 30) (hk : rcvK q cu am rf = kk) (h0 : ¬ kk = 0) (hv : cdA kk = rv) : Met l yL_receives wsL_receives ({ frames := 8, cells := 1, slots := 6, locals := 160 } : Room) (va_Pc [.ref (a 0), .int (cu), .int (am), .int (rf)] (PreX D cI cZ (wCA a cI cZ B R E (td)) sz)) (va_Qi (fun (r : Int32) (_ : Unit) => r = rv) (fun (_ : Unit) => PostW D cI cZ (va_A (wCA a cI cZ B R E (td)) sz) (wCA a cI cZ B R E (td))) (va_A (wCA a cI cZ B R E (td)) sz)) 1 6 (va_A (wCA a cI cZ B R E (td)) sz) := by
  refine va_MetW (cc := cL_receives) (maxL := 5) (ret := (some .int)) (hh := [(0, 7, 8, 13), (0, 7, 13, 16), (0, 7, 18, 19)]) (by decide) rfl ?_
  intro p e s m args below meth c s₁ BB hml hv
  obtain ⟨rfl, ⟨hsz, hP, hK, hD0⟩, hX, hZ⟩ := hv
  have hx := BB.exec
  have hb := BB.bytes
  have hr := BB.returns
  have hts := atoms_spec (ws := wsL_receives) BB.pre
  have hown : s.vm.findClass RL = some m.cls := findClass_of_methodNamed BB.named
  have hlocks := BB.notSynchronized
  have htab : c.exceptionTable.toList = tableOf [(0, 7, 8, 13), (0, 7, 13, 16), (0, 7, 18, 19)] := vx_table (x := yL_receives) BB (hts (.codeWith yL_receives cL_receives 5 (some .int) [(0, 7, 8, 13), (0, 7, 13, 16), (0, 7, 18, 19)]) List.mem_cons_self)
  clear BB
  subst hsz
  have hD := hD0.self (sz := s.heap.size)
  clear hD0
  generalize hAe : va_A (wCA a cI cZ B R E (td)) s.heap.size = A at hD hZ ⊢
  have hA : ∀ q : Nat, s.heap.size ≤ q → A q := fun q h => by rw [← hAe]; exact Or.inr h
  clear hAe
  have hl := lv_entry ([.ref (a 0), .int (cu), .int (am), .int (rf)]) (n := 5) (Nat.le_of_ble_eq_true rfl)
  rw [lg_entry_eq]
  generalize (lg_sl ([.ref (a 0), .int (cu), .int (am), .int (rf)]) ++ List.replicate (5 - (lg_sl ([.ref (a 0), .int (cu), .int (am), .int (rf)])).length) Slot.unset).toArray = ls at hl ⊢
  have hl : lv_has ls 5 [(0, .ref (a 0)), (1, .int (cu)), (2, .int (am)), (3, .int (rf))] := hl
  generalize hHe : s.heap = H at hP ⊢
  have hS : va_S A s.heap H [] := by rw [← hHe]; exact va_S.rf
  clear hHe
  generalize hLe : ([] : List Loc) = locs at hS ⊢
  clear hLe
  refine lv_aload_n hx hb dL_receives_0 rfl (lv_at hl 0 rfl) ?_
  refine lv_iload_n hx hb dL_receives_1 rfl (lv_at hl 1 rfl) ?_
  refine lv_iload_n hx hb dL_receives_2 rfl (lv_at hl 2 rfl) ?_
  refine lv_iload_n hx hb dL_receives_3 rfl (lv_at hl 3 rfl) ?_
  have hkc : rcvK q cu am rf = kk := hk
  rcases (show rcvK q cu am rf = 0 ∨ rcvK q cu am rf = 1 ∨ rcvK q cu am rf = 2 ∨ rcvK q cu am rf = 3 from rcvK_c).resolve_left (fun z => h0 (hkc.symm.trans z)) with hk1 | hk2 | hk3
  · -- 1
    refine zxV (ci := 3) (q0 := 0) kCA ⟨hx, hb, hml, hown, hts⟩ (zwCA hP hD hS hA) hK hX hZ (x_X3_receive l hfl D cI cZ a H.size (B) (R) (E) (td) (q) (cu) (am) (rf) eI (hR) (hq) (fun z => h0 (hkc.symm.trans z)) (by rw [hk1]; rfl)) (cwV 3 hts gL_receives_X3_receive rfl rfl rfl (by decide +kernel) ⟨Nat.le_of_ble_eq_true rfl, Nat.le_of_ble_eq_true rfl⟩) rfl rfl (by decide) rfl rfl hl.1 rfl (Nat.le_of_ble_eq_true rfl) dL_receives_4 ⟨Nat.le_of_ble_eq_true rfl, Nat.le_of_ble_eq_true rfl⟩ (fun ce q9 H locs hP hD hS hce hcv hcl => ?_)
    refine vx_catch (E := eI) (name := eI) hown [] ⟨0, 7, 8, 13⟩ [⟨0, 7, 13, 16⟩, ⟨0, 7, 18, 19⟩] htab (fun z hz => nomatch hz) rfl (by decide) (hts (.classLink RL 13 "java/lang/IndexOutOfBoundsException") (by decide +kernel)) (va_Nw.use rfl (hX.1.2.1)) hce hcv hcl ?_
    refine lv_astore (lv' := [(4, .ref (q9)), (0, .ref (a 0)), (1, .int (cu)), (2, .int (am)), (3, .int (rf))]) hx hb dL_receives_8 hl (by decide) rfl (fun ls hl => ?_)
    refine lv_ldc (v := -2000000001) hx hb hown (hts (.constant RL 15 (-2000000001)) (by decide +kernel)) dL_receives_10 ?_
    exact W.iret (v := (-2000000001)) hx hb hr (fun t ht hW => ⟨⟨(-2000000001), (), rfl, (by rw [← hv, ← hkc, hk1]; rfl), by rw [ht]; exact hP, va_K.moved hW.alike hK, hD⟩, hS.F ht⟩) hS.2.2 dL_receives_12
  · -- 2
    refine zxV (ci := 3) (q0 := 0) kCA ⟨hx, hb, hml, hown, hts⟩ (zwCA hP hD hS hA) hK hX hZ (x_X3_receive l hfl D cI cZ a H.size (B) (R) (E) (td) (q) (cu) (am) (rf) eA (hR) (hq) (fun z => h0 (hkc.symm.trans z)) (by rw [hk2]; rfl)) (cwV 3 hts gL_receives_X3_receive rfl rfl rfl (by decide +kernel) ⟨Nat.le_of_ble_eq_true rfl, Nat.le_of_ble_eq_true rfl⟩) rfl rfl (by decide) rfl rfl hl.1 rfl (Nat.le_of_ble_eq_true rfl) dL_receives_4 ⟨Nat.le_of_ble_eq_true rfl, Nat.le_of_ble_eq_true rfl⟩ (fun ce q9 H locs hP hD hS hce hcv hcl => ?_)
    refine vx_catch (E := eA) (name := eA) hown [⟨0, 7, 8, 13⟩] ⟨0, 7, 13, 16⟩ [⟨0, 7, 18, 19⟩] htab (List.forall_mem_cons.mpr ⟨Or.inr ⟨by decide, eI, hts (.classLink RL 13 "java/lang/IndexOutOfBoundsException") (by decide +kernel), hX.2.2.1⟩, fun z hz => nomatch hz⟩) rfl (by decide) (hts (.classLink RL 16 "java/lang/IllegalArgumentException") (by decide +kernel)) (va_Nw.use rfl (hX.1.2.2.1)) hce hcv hcl ?_
    refine lv_astore (lv' := [(4, .ref (q9)), (0, .ref (a 0)), (1, .int (cu)), (2, .int (am)), (3, .int (rf))]) hx hb dL_receives_13 hl (by decide) rfl (fun ls hl => ?_)
    refine lv_ldc (v := -2000000002) hx hb hown (hts (.constant RL 18 (-2000000002)) (by decide +kernel)) dL_receives_15 ?_
    exact W.iret (v := (-2000000002)) hx hb hr (fun t ht hW => ⟨⟨(-2000000002), (), rfl, (by rw [← hv, ← hkc, hk2]; rfl), by rw [ht]; exact hP, va_K.moved hW.alike hK, hD⟩, hS.F ht⟩) hS.2.2 dL_receives_17
  · -- 3
    refine zxV (ci := 3) (q0 := 0) kCA ⟨hx, hb, hml, hown, hts⟩ (zwCA hP hD hS hA) hK hX hZ (x_X3_receive l hfl D cI cZ a H.size (B) (R) (E) (td) (q) (cu) (am) (rf) eS (hR) (hq) (fun z => h0 (hkc.symm.trans z)) (by rw [hk3]; rfl)) (cwV 3 hts gL_receives_X3_receive rfl rfl rfl (by decide +kernel) ⟨Nat.le_of_ble_eq_true rfl, Nat.le_of_ble_eq_true rfl⟩) rfl rfl (by decide) rfl rfl hl.1 rfl (Nat.le_of_ble_eq_true rfl) dL_receives_4 ⟨Nat.le_of_ble_eq_true rfl, Nat.le_of_ble_eq_true rfl⟩ (fun ce q9 H locs hP hD hS hce hcv hcl => ?_)
    refine vx_catch (E := eS) (name := eS) hown [⟨0, 7, 8, 13⟩, ⟨0, 7, 13, 16⟩] ⟨0, 7, 18, 19⟩ [] htab (List.forall_mem_cons.mpr ⟨Or.inr ⟨by decide, eI, hts (.classLink RL 13 "java/lang/IndexOutOfBoundsException") (by decide +kernel), hX.2.2.2.1⟩, List.forall_mem_cons.mpr ⟨Or.inr ⟨by decide, eA, hts (.classLink RL 16 "java/lang/IllegalArgumentException") (by decide +kernel), hX.2.2.2.2⟩, fun z hz => nomatch hz⟩⟩) rfl (by decide) (hts (.classLink RL 19 "java/lang/IllegalStateException") (by decide +kernel)) (va_Nw.use rfl (hX.1.2.2.2)) hce hcv hcl ?_
    refine lv_astore (lv' := [(4, .ref (q9)), (0, .ref (a 0)), (1, .int (cu)), (2, .int (am)), (3, .int (rf))]) hx hb dL_receives_18 hl (by decide) rfl (fun ls hl => ?_)
    refine lv_ldc (v := -2000000003) hx hb hown (hts (.constant RL 21 (-2000000003)) (by decide +kernel)) dL_receives_20 ?_
    exact W.iret (v := (-2000000003)) hx hb hr (fun t ht hW => ⟨⟨(-2000000003), (), rfl, (by rw [← hv, ← hkc, hk3]; rfl), by rw [ht]; exact hP, va_K.moved hW.alike hK, hD⟩, hS.F ht⟩) hS.2.2 dL_receives_22
set_option maxHeartbeats 4000000 in
set_option maxRecDepth 100000 in
theorem c_L_assigns_0 (l : Launch) (D : va_G) (cI cZ : ClassId) (a : Nat → Nat) (sz : Nat) (B : Nat → Nat → Int32) (R : Nat → Nat → Int32) (E : Nat → Nat → Int32) (td : Int32) (n : Nat) (q : Nat) (rc : Nat) (cu : Int32) (hB : B 11 0 = nI n) (hn : n ≤ 40) (hR : R 8 0 = nI q) (hq : q ≤ 30) (hrq : rc < q) (h1 : ¬ cu < 0) (h2 : cu < 8) (h5 : R 5 rc = 0) (h0 : R 0 rc = -1) : Met l yL_assigns wsL_assigns ({ frames := 7, cells := 0, slots := 0, locals := 158 } : Room) (va_Pc [.ref (a 0), .int (nI (rc)), .int (cu)] (PreX D cI cZ (wCA a cI cZ B R E (td)) sz)) (va_Qi (fun (r : Int32) (_ : Unit) => r = (othS B (pt R 0 rc cu) E rc n td).2.1 3 rc) (fun (_ : Unit) => PostW D cI cZ (va_A (wCA a cI cZ B R E (td)) sz) (wCA a cI cZ ((othS B (pt R 0 rc cu) E rc n td).1) ((othS B (pt R 0 rc cu) E rc n td).2.1) ((othS B (pt R 0 rc cu) E rc n td).2.2) (td))) (va_A (wCA a cI cZ B R E (td)) sz)) 0 0 (va_A (wCA a cI cZ B R E (td)) sz) := by
  refine va_MetW (cc := cL_assigns) (maxL := 4) (ret := (some .int)) (hh := [(0, 6, 7, 13), (0, 6, 11, 19)]) (by decide) rfl ?_
  intro p e s m args below meth c s₁ BB hml hv
  obtain ⟨rfl, ⟨hsz, hP, hK, hD0⟩, hX, hZ⟩ := hv
  have hx := BB.exec
  have hb := BB.bytes
  have hr := BB.returns
  have hts := atoms_spec (ws := wsL_assigns) BB.pre
  have hown : s.vm.findClass RL = some m.cls := findClass_of_methodNamed BB.named
  have hlocks := BB.notSynchronized
  clear BB
  subst hsz
  have hD := hD0.self (sz := s.heap.size)
  clear hD0
  generalize hAe : va_A (wCA a cI cZ B R E (td)) s.heap.size = A at hD hZ ⊢
  have hA : ∀ q : Nat, s.heap.size ≤ q → A q := fun q h => by rw [← hAe]; exact Or.inr h
  clear hAe
  have hl := lv_entry ([.ref (a 0), .int (nI (rc)), .int (cu)]) (n := 4) (Nat.le_of_ble_eq_true rfl)
  rw [lg_entry_eq]
  generalize (lg_sl ([.ref (a 0), .int (nI (rc)), .int (cu)]) ++ List.replicate (4 - (lg_sl ([.ref (a 0), .int (nI (rc)), .int (cu)])).length) Slot.unset).toArray = ls at hl ⊢
  have hl : lv_has ls 4 [(0, .ref (a 0)), (1, .int (nI (rc))), (2, .int (cu))] := hl
  generalize hHe : s.heap = H at hP ⊢
  have hS : va_S A s.heap H [] := by rw [← hHe]; exact va_S.rf
  clear hHe
  generalize hLe : ([] : List Loc) = locs at hS ⊢
  clear hLe
  refine lv_aload_n hx hb dL_assigns_0 rfl (lv_at hl 0 rfl) ?_
  refine lv_iload_n hx hb dL_assigns_1 rfl (lv_at hl 1 rfl) ?_
  refine lv_iload_n hx hb dL_assigns_2 rfl (lv_at hl 2 rfl) ?_
  refine zcVi (ci := 3) (q0 := 0) (wf := (fun (u : (Nat → Nat → Int32) × (Nat → Nat → Int32) × (Nat → Nat → Int32)) => (wCA a cI cZ (u.1) (u.2.1) (u.2.2) (td)))) (List.range 26) ⟨hx, hb, hml, hown, hts⟩ (zwAll 26 (by decide) rfl hP hD hS hA) hK (c_X3_assign l D cI cZ a H.size (B) (R) (E) (td) (n) (q) (rc) (cu) (by first | assumption | omega) (by first | assumption | omega) (by first | assumption | omega) (by first | assumption | omega) (by first | assumption | omega) (by first | assumption | omega) (by first | assumption | omega) (by first | assumption | omega) (by first | assumption | omega)) (cwV 2 hts gL_assigns_X3_assign rfl rfl rfl (by decide +kernel) ⟨Nat.le_of_ble_eq_true rfl, Nat.le_of_ble_eq_true rfl⟩) rfl rfl (by decide) (fun _ => rfl) rfl hl.1 rfl (Nat.le_of_ble_eq_true rfl) dL_assigns_3 ⟨Nat.le_of_ble_eq_true rfl, Nat.le_of_ble_eq_true rfl⟩ (fun r3 u H locs hw hP hD hS => ?_)
  obtain ⟨rfl, rfl⟩ := hw
  have hP : va_P D vwCl (wCA a cI cZ ((othS (B) (pt (R) 0 (rc) (cu)) (E) (rc) n (td)).1) ((othS (B) (pt (R) 0 (rc) (cu)) (E) (rc) n (td)).2.1) ((othS (B) (pt (R) 0 (rc) (cu)) (E) (rc) n (td)).2.2) (td)) H := hP
  have hD : va_D A (wCA a cI cZ ((othS (B) (pt (R) 0 (rc) (cu)) (E) (rc) n (td)).1) ((othS (B) (pt (R) 0 (rc) (cu)) (E) (rc) n (td)).2.1) ((othS (B) (pt (R) 0 (rc) (cu)) (E) (rc) n (td)).2.2) (td)) := hD
  exact W.iret (v := (othS (B) (pt (R) 0 (rc) (cu)) (E) (rc) n (td)).2.1 3 (rc)) hx hb hr (fun t ht hW => ⟨⟨(othS (B) (pt (R) 0 (rc) (cu)) (E) (rc) n (td)).2.1 3 (rc), (), rfl, rfl, by rw [ht]; exact hP, va_K.moved hW.alike hK, hD⟩, hS.F ht⟩) hS.2.2 dL_assigns_6
set_option maxHeartbeats 4000000 in
set_option maxRecDepth 100000 in
theorem c_L_assigns_k (l : Launch) (hfl : l.stackTraces = false) (D : va_G) (cI cZ : ClassId) (a : Nat → Nat) (sz : Nat) (B : Nat → Nat → Int32) (R : Nat → Nat → Int32) (E : Nat → Nat → Int32) (td : Int32) (q : Nat) (vx : Int32) (cu : Int32) (kk : Nat) (rv : Int32) (hR : R 8 0 = nI q) (hq : q ≤ 30) (hk : asgK R vx cu = kk) (h0 : ¬ kk = 0) (hv : cdB kk = rv) : Met l yL_assigns wsL_assigns ({ frames := 8, cells := 1, slots := 6, locals := 158 } : Room) (va_Pc [.ref (a 0), .int (vx), .int (cu)] (PreX D cI cZ (wCA a cI cZ B R E (td)) sz)) (va_Qi (fun (r : Int32) (_ : Unit) => r = rv) (fun (_ : Unit) => PostW D cI cZ (va_A (wCA a cI cZ B R E (td)) sz) (wCA a cI cZ B R E (td))) (va_A (wCA a cI cZ B R E (td)) sz)) 1 6 (va_A (wCA a cI cZ B R E (td)) sz) := by
  refine va_MetW (cc := cL_assigns) (maxL := 4) (ret := (some .int)) (hh := [(0, 6, 7, 13), (0, 6, 11, 19)]) (by decide) rfl ?_
  intro p e s m args below meth c s₁ BB hml hv
  obtain ⟨rfl, ⟨hsz, hP, hK, hD0⟩, hX, hZ⟩ := hv
  have hx := BB.exec
  have hb := BB.bytes
  have hr := BB.returns
  have hts := atoms_spec (ws := wsL_assigns) BB.pre
  have hown : s.vm.findClass RL = some m.cls := findClass_of_methodNamed BB.named
  have hlocks := BB.notSynchronized
  have htab : c.exceptionTable.toList = tableOf [(0, 6, 7, 13), (0, 6, 11, 19)] := vx_table (x := yL_assigns) BB (hts (.codeWith yL_assigns cL_assigns 4 (some .int) [(0, 6, 7, 13), (0, 6, 11, 19)]) List.mem_cons_self)
  clear BB
  subst hsz
  have hD := hD0.self (sz := s.heap.size)
  clear hD0
  generalize hAe : va_A (wCA a cI cZ B R E (td)) s.heap.size = A at hD hZ ⊢
  have hA : ∀ q : Nat, s.heap.size ≤ q → A q := fun q h => by rw [← hAe]; exact Or.inr h
  clear hAe
  have hl := lv_entry ([.ref (a 0), .int (vx), .int (cu)]) (n := 4) (Nat.le_of_ble_eq_true rfl)
  rw [lg_entry_eq]
  generalize (lg_sl ([.ref (a 0), .int (vx), .int (cu)]) ++ List.replicate (4 - (lg_sl ([.ref (a 0), .int (vx), .int (cu)])).length) Slot.unset).toArray = ls at hl ⊢
  have hl : lv_has ls 4 [(0, .ref (a 0)), (1, .int (vx)), (2, .int (cu))] := hl
  generalize hHe : s.heap = H at hP ⊢
  have hS : va_S A s.heap H [] := by rw [← hHe]; exact va_S.rf
  clear hHe
  generalize hLe : ([] : List Loc) = locs at hS ⊢
  clear hLe
  refine lv_aload_n hx hb dL_assigns_0 rfl (lv_at hl 0 rfl) ?_
  refine lv_iload_n hx hb dL_assigns_1 rfl (lv_at hl 1 rfl) ?_
  refine lv_iload_n hx hb dL_assigns_2 rfl (lv_at hl 2 rfl) ?_
  have hkc : asgK R vx cu = kk := hk
  rcases (show asgK R vx cu = 0 ∨ asgK R vx cu = 1 ∨ asgK R vx cu = 2 from asgK_c).resolve_left (fun z => h0 (hkc.symm.trans z)) with hk1 | hk2
  · -- 1
    refine zxV (ci := 3) (q0 := 0) kCA ⟨hx, hb, hml, hown, hts⟩ (zwCA hP hD hS hA) hK hX hZ (x_X3_assign l hfl D cI cZ a H.size (B) (R) (E) (td) (q) (vx) (cu) eI (hR) (hq) (fun z => h0 (hkc.symm.trans z)) (by rw [hk1]; rfl)) (cwV 2 hts gL_assigns_X3_assign rfl rfl rfl (by decide +kernel) ⟨Nat.le_of_ble_eq_true rfl, Nat.le_of_ble_eq_true rfl⟩) rfl rfl (by decide) rfl rfl hl.1 rfl (Nat.le_of_ble_eq_true rfl) dL_assigns_3 ⟨Nat.le_of_ble_eq_true rfl, Nat.le_of_ble_eq_true rfl⟩ (fun ce q9 H locs hP hD hS hce hcv hcl => ?_)
    refine vx_catch (E := eI) (name := eI) hown [] ⟨0, 6, 7, 13⟩ [⟨0, 6, 11, 19⟩] htab (fun z hz => nomatch hz) rfl (by decide) (hts (.classLink RL 13 "java/lang/IndexOutOfBoundsException") (by decide +kernel)) (va_Nw.use rfl (hX.1.2.1)) hce hcv hcl ?_
    refine lv_astore_n (lv' := [(3, .ref (q9)), (0, .ref (a 0)), (1, .int (vx)), (2, .int (cu))]) hx hb dL_assigns_7 rfl hl (by decide) rfl (fun ls hl => ?_)
    refine lv_ldc (v := -2000000001) hx hb hown (hts (.constant RL 15 (-2000000001)) (by decide +kernel)) dL_assigns_8 ?_
    exact W.iret (v := (-2000000001)) hx hb hr (fun t ht hW => ⟨⟨(-2000000001), (), rfl, (by rw [← hv, ← hkc, hk1]; rfl), by rw [ht]; exact hP, va_K.moved hW.alike hK, hD⟩, hS.F ht⟩) hS.2.2 dL_assigns_10
  · -- 2
    refine zxV (ci := 3) (q0 := 0) kCA ⟨hx, hb, hml, hown, hts⟩ (zwCA hP hD hS hA) hK hX hZ (x_X3_assign l hfl D cI cZ a H.size (B) (R) (E) (td) (q) (vx) (cu) eS (hR) (hq) (fun z => h0 (hkc.symm.trans z)) (by rw [hk2]; rfl)) (cwV 2 hts gL_assigns_X3_assign rfl rfl rfl (by decide +kernel) ⟨Nat.le_of_ble_eq_true rfl, Nat.le_of_ble_eq_true rfl⟩) rfl rfl (by decide) rfl rfl hl.1 rfl (Nat.le_of_ble_eq_true rfl) dL_assigns_3 ⟨Nat.le_of_ble_eq_true rfl, Nat.le_of_ble_eq_true rfl⟩ (fun ce q9 H locs hP hD hS hce hcv hcl => ?_)
    refine vx_catch (E := eS) (name := eS) hown [⟨0, 6, 7, 13⟩] ⟨0, 6, 11, 19⟩ [] htab (List.forall_mem_cons.mpr ⟨Or.inr ⟨by decide, eI, hts (.classLink RL 13 "java/lang/IndexOutOfBoundsException") (by decide +kernel), hX.2.2.2.1⟩, fun z hz => nomatch hz⟩) rfl (by decide) (hts (.classLink RL 19 "java/lang/IllegalStateException") (by decide +kernel)) (va_Nw.use rfl (hX.1.2.2.2)) hce hcv hcl ?_
    refine lv_astore_n (lv' := [(3, .ref (q9)), (0, .ref (a 0)), (1, .int (vx)), (2, .int (cu))]) hx hb dL_assigns_11 rfl hl (by decide) rfl (fun ls hl => ?_)
    refine lv_ldc (v := -2000000003) hx hb hown (hts (.constant RL 21 (-2000000003)) (by decide +kernel)) dL_assigns_12 ?_
    exact W.iret (v := (-2000000003)) hx hb hr (fun t ht hW => ⟨⟨(-2000000003), (), rfl, (by rw [← hv, ← hkc, hk2]; rfl), by rw [ht]; exact hP, va_K.moved hW.alike hK, hD⟩, hS.F ht⟩) hS.2.2 dL_assigns_14
set_option maxHeartbeats 4000000 in
set_option maxRecDepth 100000 in
theorem c_L_applies_0 (l : Launch) (D : va_G) (cI cZ : ClassId) (a : Nat → Nat) (sz : Nat) (B : Nat → Nat → Int32) (R : Nat → Nat → Int32) (E : Nat → Nat → Int32) (td : Int32) (n : Nat) (q : Nat) (rc : Nat) (hB : B 11 0 = nI n) (hn : n ≤ 40) (hR : R 8 0 = nI q) (hq : q ≤ 30) (hrq : rc < q) (h5 : R 5 rc = 0) (h0 : ¬ R 0 rc = -1) : Met l yL_applies wsL_applies ({ frames := 7, cells := 0, slots := 0, locals := 157 } : Room) (va_Pc [.ref (a 0), .int (nI (rc))] (PreX D cI cZ (wCA a cI cZ B R E (td)) sz)) (va_Qi (fun (r : Int32) (_ : Unit) => r = (othS B R E rc n td).2.1 3 rc) (fun (_ : Unit) => PostW D cI cZ (va_A (wCA a cI cZ B R E (td)) sz) (wCA a cI cZ ((othS B R E rc n td).1) ((othS B R E rc n td).2.1) ((othS B R E rc n td).2.2) (td))) (va_A (wCA a cI cZ B R E (td)) sz)) 0 0 (va_A (wCA a cI cZ B R E (td)) sz) := by
  refine va_MetW (cc := cL_applies) (maxL := 3) (ret := (some .int)) (hh := [(0, 5, 6, 13), (0, 5, 10, 19)]) (by decide) rfl ?_
  intro p e s m args below meth c s₁ BB hml hv
  obtain ⟨rfl, ⟨hsz, hP, hK, hD0⟩, hX, hZ⟩ := hv
  have hx := BB.exec
  have hb := BB.bytes
  have hr := BB.returns
  have hts := atoms_spec (ws := wsL_applies) BB.pre
  have hown : s.vm.findClass RL = some m.cls := findClass_of_methodNamed BB.named
  have hlocks := BB.notSynchronized
  clear BB
  subst hsz
  have hD := hD0.self (sz := s.heap.size)
  clear hD0
  generalize hAe : va_A (wCA a cI cZ B R E (td)) s.heap.size = A at hD hZ ⊢
  have hA : ∀ q : Nat, s.heap.size ≤ q → A q := fun q h => by rw [← hAe]; exact Or.inr h
  clear hAe
  have hl := lv_entry ([.ref (a 0), .int (nI (rc))]) (n := 3) (Nat.le_of_ble_eq_true rfl)
  rw [lg_entry_eq]
  generalize (lg_sl ([.ref (a 0), .int (nI (rc))]) ++ List.replicate (3 - (lg_sl ([.ref (a 0), .int (nI (rc))])).length) Slot.unset).toArray = ls at hl ⊢
  have hl : lv_has ls 3 [(0, .ref (a 0)), (1, .int (nI (rc)))] := hl
  generalize hHe : s.heap = H at hP ⊢
  have hS : va_S A s.heap H [] := by rw [← hHe]; exact va_S.rf
  clear hHe
  generalize hLe : ([] : List Loc) = locs at hS ⊢
  clear hLe
  refine lv_aload_n hx hb dL_applies_0 rfl (lv_at hl 0 rfl) ?_
  refine lv_iload_n hx hb dL_applies_1 rfl (lv_at hl 1 rfl) ?_
  refine zcVi (ci := 3) (q0 := 0) (wf := (fun (u : (Nat → Nat → Int32) × (Nat → Nat → Int32) × (Nat → Nat → Int32)) => (wCA a cI cZ (u.1) (u.2.1) (u.2.2) (td)))) (List.range 26) ⟨hx, hb, hml, hown, hts⟩ (zwAll 26 (by decide) rfl hP hD hS hA) hK (c_X3_apply l D cI cZ a H.size (B) (R) (E) (td) (n) (q) (rc) (by first | assumption | omega) (by first | assumption | omega) (by first | assumption | omega) (by first | assumption | omega) (by first | assumption | omega) (by first | assumption | omega) (by first | assumption | omega)) (cwV 1 hts gL_applies_X3_apply rfl rfl rfl (by decide +kernel) ⟨Nat.le_of_ble_eq_true rfl, Nat.le_of_ble_eq_true rfl⟩) rfl rfl (by decide) (fun _ => rfl) rfl hl.1 rfl (Nat.le_of_ble_eq_true rfl) dL_applies_2 ⟨Nat.le_of_ble_eq_true rfl, Nat.le_of_ble_eq_true rfl⟩ (fun r2 u H locs hw hP hD hS => ?_)
  obtain ⟨rfl, rfl⟩ := hw
  have hP : va_P D vwCl (wCA a cI cZ ((othS (B) (R) (E) (rc) n (td)).1) ((othS (B) (R) (E) (rc) n (td)).2.1) ((othS (B) (R) (E) (rc) n (td)).2.2) (td)) H := hP
  have hD : va_D A (wCA a cI cZ ((othS (B) (R) (E) (rc) n (td)).1) ((othS (B) (R) (E) (rc) n (td)).2.1) ((othS (B) (R) (E) (rc) n (td)).2.2) (td)) := hD
  exact W.iret (v := (othS (B) (R) (E) (rc) n (td)).2.1 3 (rc)) hx hb hr (fun t ht hW => ⟨⟨(othS (B) (R) (E) (rc) n (td)).2.1 3 (rc), (), rfl, rfl, by rw [ht]; exact hP, va_K.moved hW.alike hK, hD⟩, hS.F ht⟩) hS.2.2 dL_applies_5
set_option maxHeartbeats 4000000 in
set_option maxRecDepth 100000 in
theorem c_L_applies_k (l : Launch) (hfl : l.stackTraces = false) (D : va_G) (cI cZ : ClassId) (a : Nat → Nat) (sz : Nat) (B : Nat → Nat → Int32) (R : Nat → Nat → Int32) (E : Nat → Nat → Int32) (td : Int32) (q : Nat) (vx : Int32) (kk : Nat) (rv : Int32) (hR : R 8 0 = nI q) (hq : q ≤ 30) (hk : aplK R vx = kk) (h0 : ¬ kk = 0) (hv : cdB kk = rv) : Met l yL_applies wsL_applies ({ frames := 8, cells := 1, slots := 6, locals := 157 } : Room) (va_Pc [.ref (a 0), .int (vx)] (PreX D cI cZ (wCA a cI cZ B R E (td)) sz)) (va_Qi (fun (r : Int32) (_ : Unit) => r = rv) (fun (_ : Unit) => PostW D cI cZ (va_A (wCA a cI cZ B R E (td)) sz) (wCA a cI cZ B R E (td))) (va_A (wCA a cI cZ B R E (td)) sz)) 1 6 (va_A (wCA a cI cZ B R E (td)) sz) := by
  refine va_MetW (cc := cL_applies) (maxL := 3) (ret := (some .int)) (hh := [(0, 5, 6, 13), (0, 5, 10, 19)]) (by decide) rfl ?_
  intro p e s m args below meth c s₁ BB hml hv
  obtain ⟨rfl, ⟨hsz, hP, hK, hD0⟩, hX, hZ⟩ := hv
  have hx := BB.exec
  have hb := BB.bytes
  have hr := BB.returns
  have hts := atoms_spec (ws := wsL_applies) BB.pre
  have hown : s.vm.findClass RL = some m.cls := findClass_of_methodNamed BB.named
  have hlocks := BB.notSynchronized
  have htab : c.exceptionTable.toList = tableOf [(0, 5, 6, 13), (0, 5, 10, 19)] := vx_table (x := yL_applies) BB (hts (.codeWith yL_applies cL_applies 3 (some .int) [(0, 5, 6, 13), (0, 5, 10, 19)]) List.mem_cons_self)
  clear BB
  subst hsz
  have hD := hD0.self (sz := s.heap.size)
  clear hD0
  generalize hAe : va_A (wCA a cI cZ B R E (td)) s.heap.size = A at hD hZ ⊢
  have hA : ∀ q : Nat, s.heap.size ≤ q → A q := fun q h => by rw [← hAe]; exact Or.inr h
  clear hAe
  have hl := lv_entry ([.ref (a 0), .int (vx)]) (n := 3) (Nat.le_of_ble_eq_true rfl)
  rw [lg_entry_eq]
  generalize (lg_sl ([.ref (a 0), .int (vx)]) ++ List.replicate (3 - (lg_sl ([.ref (a 0), .int (vx)])).length) Slot.unset).toArray = ls at hl ⊢
  have hl : lv_has ls 3 [(0, .ref (a 0)), (1, .int (vx))] := hl
  generalize hHe : s.heap = H at hP ⊢
  have hS : va_S A s.heap H [] := by rw [← hHe]; exact va_S.rf
  clear hHe
  generalize hLe : ([] : List Loc) = locs at hS ⊢
  clear hLe
  refine lv_aload_n hx hb dL_applies_0 rfl (lv_at hl 0 rfl) ?_
  refine lv_iload_n hx hb dL_applies_1 rfl (lv_at hl 1 rfl) ?_
  have hkc : aplK R vx = kk := hk
  rcases (show aplK R vx = 0 ∨ aplK R vx = 1 ∨ aplK R vx = 2 from aplK_c).resolve_left (fun z => h0 (hkc.symm.trans z)) with hk1 | hk2
  · -- 1
    refine zxV (ci := 3) (q0 := 0) kCA ⟨hx, hb, hml, hown, hts⟩ (zwCA hP hD hS hA) hK hX hZ (x_X3_apply l hfl D cI cZ a H.size (B) (R) (E) (td) (q) (vx) eI (hR) (hq) (fun z => h0 (hkc.symm.trans z)) (by rw [hk1]; rfl)) (cwV 1 hts gL_applies_X3_apply rfl rfl rfl (by decide +kernel) ⟨Nat.le_of_ble_eq_true rfl, Nat.le_of_ble_eq_true rfl⟩) rfl rfl (by decide) rfl rfl hl.1 rfl (Nat.le_of_ble_eq_true rfl) dL_applies_2 ⟨Nat.le_of_ble_eq_true rfl, Nat.le_of_ble_eq_true rfl⟩ (fun ce q9 H locs hP hD hS hce hcv hcl => ?_)
    refine vx_catch (E := eI) (name := eI) hown [] ⟨0, 5, 6, 13⟩ [⟨0, 5, 10, 19⟩] htab (fun z hz => nomatch hz) rfl (by decide) (hts (.classLink RL 13 "java/lang/IndexOutOfBoundsException") (by decide +kernel)) (va_Nw.use rfl (hX.1.2.1)) hce hcv hcl ?_
    refine lv_astore_n (lv' := [(2, .ref (q9)), (0, .ref (a 0)), (1, .int (vx))]) hx hb dL_applies_6 rfl hl (by decide) rfl (fun ls hl => ?_)
    refine lv_ldc (v := -2000000001) hx hb hown (hts (.constant RL 15 (-2000000001)) (by decide +kernel)) dL_applies_7 ?_
    exact W.iret (v := (-2000000001)) hx hb hr (fun t ht hW => ⟨⟨(-2000000001), (), rfl, (by rw [← hv, ← hkc, hk1]; rfl), by rw [ht]; exact hP, va_K.moved hW.alike hK, hD⟩, hS.F ht⟩) hS.2.2 dL_applies_9
  · -- 2
    refine zxV (ci := 3) (q0 := 0) kCA ⟨hx, hb, hml, hown, hts⟩ (zwCA hP hD hS hA) hK hX hZ (x_X3_apply l hfl D cI cZ a H.size (B) (R) (E) (td) (q) (vx) eS (hR) (hq) (fun z => h0 (hkc.symm.trans z)) (by rw [hk2]; rfl)) (cwV 1 hts gL_applies_X3_apply rfl rfl rfl (by decide +kernel) ⟨Nat.le_of_ble_eq_true rfl, Nat.le_of_ble_eq_true rfl⟩) rfl rfl (by decide) rfl rfl hl.1 rfl (Nat.le_of_ble_eq_true rfl) dL_applies_2 ⟨Nat.le_of_ble_eq_true rfl, Nat.le_of_ble_eq_true rfl⟩ (fun ce q9 H locs hP hD hS hce hcv hcl => ?_)
    refine vx_catch (E := eS) (name := eS) hown [⟨0, 5, 6, 13⟩] ⟨0, 5, 10, 19⟩ [] htab (List.forall_mem_cons.mpr ⟨Or.inr ⟨by decide, eI, hts (.classLink RL 13 "java/lang/IndexOutOfBoundsException") (by decide +kernel), hX.2.2.2.1⟩, fun z hz => nomatch hz⟩) rfl (by decide) (hts (.classLink RL 19 "java/lang/IllegalStateException") (by decide +kernel)) (va_Nw.use rfl (hX.1.2.2.2)) hce hcv hcl ?_
    refine lv_astore_n (lv' := [(2, .ref (q9)), (0, .ref (a 0)), (1, .int (vx))]) hx hb dL_applies_10 rfl hl (by decide) rfl (fun ls hl => ?_)
    refine lv_ldc (v := -2000000003) hx hb hown (hts (.constant RL 21 (-2000000003)) (by decide +kernel)) dL_applies_11 ?_
    exact W.iret (v := (-2000000003)) hx hb hr (fun t ht hW => ⟨⟨(-2000000003), (), rfl, (by rw [← hv, ← hkc, hk2]; rfl), by rw [ht]; exact hP, va_K.moved hW.alike hK, hD⟩, hS.F ht⟩) hS.2.2 dL_applies_13
set_option maxHeartbeats 4000000 in
set_option maxRecDepth 100000 in
theorem c_L_paysBack_0 (l : Launch) (D : va_G) (cI cZ : ClassId) (a : Nat → Nat) (sz : Nat) (B : Nat → Nat → Int32) (R : Nat → Nat → Int32) (E : Nat → Nat → Int32) (td : Int32) (q : Nat) (rc : Nat) (hR : R 8 0 = nI q) (hq : q ≤ 30) (hrq : rc < q) (h5 : R 5 rc = 0) (h3 : ¬ R 3 rc = 0) : Met l yL_paysBack wsL_paysBack ({ frames := 2, cells := 0, slots := 0, locals := 43 } : Room) (va_Pc [.ref (a 0), .int (nI (rc))] (PreX D cI cZ (wCA a cI cZ B R E (td)) sz)) (va_Qi (fun (r : Int32) (_ : Unit) => r = R 3 rc) (fun (_ : Unit) => PostW D cI cZ (va_A (wCA a cI cZ B R E (td)) sz) (wCA a cI cZ B (pbR R rc) E (td))) (va_A (wCA a cI cZ B R E (td)) sz)) 0 0 (va_A (wCA a cI cZ B R E (td)) sz) := by
  refine va_MetW (cc := cL_paysBack) (maxL := 3) (ret := (some .int)) (hh := [(0, 5, 6, 13), (0, 5, 10, 19)]) (by decide) rfl ?_
  intro p e s m args below meth c s₁ BB hml hv
  obtain ⟨rfl, ⟨hsz, hP, hK, hD0⟩, hX, hZ⟩ := hv
  have hx := BB.exec
  have hb := BB.bytes
  have hr := BB.returns
  have hts := atoms_spec (ws := wsL_paysBack) BB.pre
  have hown : s.vm.findClass RL = some m.cls := findClass_of_methodNamed BB.named
  have hlocks := BB.notSynchronized
  clear BB
  subst hsz
  have hD := hD0.self (sz := s.heap.size)
  clear hD0
  generalize hAe : va_A (wCA a cI cZ B R E (td)) s.heap.size = A at hD hZ ⊢
  have hA : ∀ q : Nat, s.heap.size ≤ q → A q := fun q h => by rw [← hAe]; exact Or.inr h
  clear hAe
  have hl := lv_entry ([.ref (a 0), .int (nI (rc))]) (n := 3) (Nat.le_of_ble_eq_true rfl)
  rw [lg_entry_eq]
  generalize (lg_sl ([.ref (a 0), .int (nI (rc))]) ++ List.replicate (3 - (lg_sl ([.ref (a 0), .int (nI (rc))])).length) Slot.unset).toArray = ls at hl ⊢
  have hl : lv_has ls 3 [(0, .ref (a 0)), (1, .int (nI (rc)))] := hl
  generalize hHe : s.heap = H at hP ⊢
  have hS : va_S A s.heap H [] := by rw [← hHe]; exact va_S.rf
  clear hHe
  generalize hLe : ([] : List Loc) = locs at hS ⊢
  clear hLe
  refine lv_aload_n hx hb dL_paysBack_0 rfl (lv_at hl 0 rfl) ?_
  refine lv_iload_n hx hb dL_paysBack_1 rfl (lv_at hl 1 rfl) ?_
  refine zcVi (ci := 3) (q0 := 0) (wf := (fun (u : Nat → Nat → Int32) => (wCA a cI cZ B u E (td)))) (List.range 26) ⟨hx, hb, hml, hown, hts⟩ (zwAll 26 (by decide) rfl hP hD hS hA) hK (c_X3_payBack l D cI cZ a H.size (B) (R) (E) (td) (q) (rc) (by first | assumption | omega) (by first | assumption | omega) (by first | assumption | omega) (by first | assumption | omega) (by first | assumption | omega)) (cwV 1 hts gL_paysBack_X3_payBack rfl rfl rfl (by decide +kernel) ⟨Nat.le_of_ble_eq_true rfl, Nat.le_of_ble_eq_true rfl⟩) rfl rfl (by decide) (fun _ => rfl) rfl hl.1 rfl (Nat.le_of_ble_eq_true rfl) dL_paysBack_2 ⟨Nat.le_of_ble_eq_true rfl, Nat.le_of_ble_eq_true rfl⟩ (fun r2 u H locs hw hP hD hS => ?_)
  obtain ⟨rfl, rfl⟩ := hw
  have hP : va_P D vwCl (wCA a cI cZ B (pbR (R) (rc)) E (td)) H := hP
  have hD : va_D A (wCA a cI cZ B (pbR (R) (rc)) E (td)) := hD
  exact W.iret (v := (R) 3 (rc)) hx hb hr (fun t ht hW => ⟨⟨(R) 3 (rc), (), rfl, rfl, by rw [ht]; exact hP, va_K.moved hW.alike hK, hD⟩, hS.F ht⟩) hS.2.2 dL_paysBack_5
set_option maxHeartbeats 4000000 in
set_option maxRecDepth 100000 in
theorem c_L_paysBack_k (l : Launch) (hfl : l.stackTraces = false) (D : va_G) (cI cZ : ClassId) (a : Nat → Nat) (sz : Nat) (B : Nat → Nat → Int32) (R : Nat → Nat → Int32) (E : Nat → Nat → Int32) (td : Int32) (q : Nat) (vx : Int32) (kk : Nat) (rv : Int32) (hR : R 8 0 = nI q) (hq : q ≤ 30) (hk : pbkK R vx = kk) (h0 : ¬ kk = 0) (hv : cdB kk = rv) : Met l yL_paysBack wsL_paysBack ({ frames := 8, cells := 1, slots := 6, locals := 132 } : Room) (va_Pc [.ref (a 0), .int (vx)] (PreX D cI cZ (wCA a cI cZ B R E (td)) sz)) (va_Qi (fun (r : Int32) (_ : Unit) => r = rv) (fun (_ : Unit) => PostW D cI cZ (va_A (wCA a cI cZ B R E (td)) sz) (wCA a cI cZ B R E (td))) (va_A (wCA a cI cZ B R E (td)) sz)) 1 6 (va_A (wCA a cI cZ B R E (td)) sz) := by
  refine va_MetW (cc := cL_paysBack) (maxL := 3) (ret := (some .int)) (hh := [(0, 5, 6, 13), (0, 5, 10, 19)]) (by decide) rfl ?_
  intro p e s m args below meth c s₁ BB hml hv
  obtain ⟨rfl, ⟨hsz, hP, hK, hD0⟩, hX, hZ⟩ := hv
  have hx := BB.exec
  have hb := BB.bytes
  have hr := BB.returns
  have hts := atoms_spec (ws := wsL_paysBack) BB.pre
  have hown : s.vm.findClass RL = some m.cls := findClass_of_methodNamed BB.named
  have hlocks := BB.notSynchronized
  have htab : c.exceptionTable.toList = tableOf [(0, 5, 6, 13), (0, 5, 10, 19)] := vx_table (x := yL_paysBack) BB (hts (.codeWith yL_paysBack cL_paysBack 3 (some .int) [(0, 5, 6, 13), (0, 5, 10, 19)]) List.mem_cons_self)
  clear BB
  subst hsz
  have hD := hD0.self (sz := s.heap.size)
  clear hD0
  generalize hAe : va_A (wCA a cI cZ B R E (td)) s.heap.size = A at hD hZ ⊢
  have hA : ∀ q : Nat, s.heap.size ≤ q → A q := fun q h => by rw [← hAe]; exact Or.inr h
  clear hAe
  have hl := lv_entry ([.ref (a 0), .int (vx)]) (n := 3) (Nat.le_of_ble_eq_true rfl)
  rw [lg_entry_eq]
  generalize (lg_sl ([.ref (a 0), .int (vx)]) ++ List.replicate (3 - (lg_sl ([.ref (a 0), .int (vx)])).length) Slot.unset).toArray = ls at hl ⊢
  have hl : lv_has ls 3 [(0, .ref (a 0)), (1, .int (vx))] := hl
  generalize hHe : s.heap = H at hP ⊢
  have hS : va_S A s.heap H [] := by rw [← hHe]; exact va_S.rf
  clear hHe
  generalize hLe : ([] : List Loc) = locs at hS ⊢
  clear hLe
  refine lv_aload_n hx hb dL_paysBack_0 rfl (lv_at hl 0 rfl) ?_
  refine lv_iload_n hx hb dL_paysBack_1 rfl (lv_at hl 1 rfl) ?_
  have hkc : pbkK R vx = kk := hk
  rcases (show pbkK R vx = 0 ∨ pbkK R vx = 1 ∨ pbkK R vx = 2 from pbkK_c).resolve_left (fun z => h0 (hkc.symm.trans z)) with hk1 | hk2
  · -- 1
    refine zxV (ci := 3) (q0 := 0) kCA ⟨hx, hb, hml, hown, hts⟩ (zwCA hP hD hS hA) hK hX hZ (x_X3_payBack l hfl D cI cZ a H.size (B) (R) (E) (td) (q) (vx) eI (hR) (hq) (fun z => h0 (hkc.symm.trans z)) (by rw [hk1]; rfl)) (cwV 1 hts gL_paysBack_X3_payBack rfl rfl rfl (by decide +kernel) ⟨Nat.le_of_ble_eq_true rfl, Nat.le_of_ble_eq_true rfl⟩) rfl rfl (by decide) rfl rfl hl.1 rfl (Nat.le_of_ble_eq_true rfl) dL_paysBack_2 ⟨Nat.le_of_ble_eq_true rfl, Nat.le_of_ble_eq_true rfl⟩ (fun ce q9 H locs hP hD hS hce hcv hcl => ?_)
    refine vx_catch (E := eI) (name := eI) hown [] ⟨0, 5, 6, 13⟩ [⟨0, 5, 10, 19⟩] htab (fun z hz => nomatch hz) rfl (by decide) (hts (.classLink RL 13 "java/lang/IndexOutOfBoundsException") (by decide +kernel)) (va_Nw.use rfl (hX.1.2.1)) hce hcv hcl ?_
    refine lv_astore_n (lv' := [(2, .ref (q9)), (0, .ref (a 0)), (1, .int (vx))]) hx hb dL_paysBack_6 rfl hl (by decide) rfl (fun ls hl => ?_)
    refine lv_ldc (v := -2000000001) hx hb hown (hts (.constant RL 15 (-2000000001)) (by decide +kernel)) dL_paysBack_7 ?_
    exact W.iret (v := (-2000000001)) hx hb hr (fun t ht hW => ⟨⟨(-2000000001), (), rfl, (by rw [← hv, ← hkc, hk1]; rfl), by rw [ht]; exact hP, va_K.moved hW.alike hK, hD⟩, hS.F ht⟩) hS.2.2 dL_paysBack_9
  · -- 2
    refine zxV (ci := 3) (q0 := 0) kCA ⟨hx, hb, hml, hown, hts⟩ (zwCA hP hD hS hA) hK hX hZ (x_X3_payBack l hfl D cI cZ a H.size (B) (R) (E) (td) (q) (vx) eS (hR) (hq) (fun z => h0 (hkc.symm.trans z)) (by rw [hk2]; rfl)) (cwV 1 hts gL_paysBack_X3_payBack rfl rfl rfl (by decide +kernel) ⟨Nat.le_of_ble_eq_true rfl, Nat.le_of_ble_eq_true rfl⟩) rfl rfl (by decide) rfl rfl hl.1 rfl (Nat.le_of_ble_eq_true rfl) dL_paysBack_2 ⟨Nat.le_of_ble_eq_true rfl, Nat.le_of_ble_eq_true rfl⟩ (fun ce q9 H locs hP hD hS hce hcv hcl => ?_)
    refine vx_catch (E := eS) (name := eS) hown [⟨0, 5, 6, 13⟩] ⟨0, 5, 10, 19⟩ [] htab (List.forall_mem_cons.mpr ⟨Or.inr ⟨by decide, eI, hts (.classLink RL 13 "java/lang/IndexOutOfBoundsException") (by decide +kernel), hX.2.2.2.1⟩, fun z hz => nomatch hz⟩) rfl (by decide) (hts (.classLink RL 19 "java/lang/IllegalStateException") (by decide +kernel)) (va_Nw.use rfl (hX.1.2.2.2)) hce hcv hcl ?_
    refine lv_astore_n (lv' := [(2, .ref (q9)), (0, .ref (a 0)), (1, .int (vx))]) hx hb dL_paysBack_10 rfl hl (by decide) rfl (fun ls hl => ?_)
    refine lv_ldc (v := -2000000003) hx hb hown (hts (.constant RL 21 (-2000000003)) (by decide +kernel)) dL_paysBack_11 ?_
    exact W.iret (v := (-2000000003)) hx hb hr (fun t ht hW => ⟨⟨(-2000000003), (), rfl, (by rw [← hv, ← hkc, hk2]; rfl), by rw [ht]; exact hP, va_K.moved hW.alike hK, hD⟩, hS.F ht⟩) hS.2.2 dL_paysBack_13
set_option maxHeartbeats 4000000 in
set_option maxRecDepth 100000 in
theorem c_L_bounces_0 (l : Launch) (D : va_G) (cI cZ : ClassId) (a : Nat → Nat) (sz : Nat) (B : Nat → Nat → Int32) (R : Nat → Nat → Int32) (E : Nat → Nat → Int32) (td : Int32) (n : Nat) (q : Nat) (rc : Nat) (hB : B 11 0 = nI n) (hn : n ≤ 40) (hR : R 8 0 = nI q) (hq : q ≤ 30) (hrq : rc < q) (h5 : R 5 rc = 0) (h4 : R 4 rc ≤ 0) (hz : ∀ j, R 7 j = 0 ∨ R 7 j = 1) : Met l yL_bounces wsL_bounces ({ frames := 3, cells := 0, slots := 0, locals := 69 } : Room) (va_Pc [.ref (a 0), .int (nI (rc))] (PreX D cI cZ (wCA a cI cZ B R E (td)) sz)) (va_Qi (fun (r : Int32) (_ : Unit) => r = nI (bncL rc n 0 0 B R).1) (fun (_ : Unit) => PostW D cI cZ (va_A (wCA a cI cZ B R E (td)) sz) (wCA a cI cZ ((((bncL rc n 0 0 B R).2.1, mkB (bncL rc n 0 0 B R).2.2 rc)).1) ((((bncL rc n 0 0 B R).2.1, mkB (bncL rc n 0 0 B R).2.2 rc)).2) E (td))) (va_A (wCA a cI cZ B R E (td)) sz)) 0 0 (va_A (wCA a cI cZ B R E (td)) sz) := by
  refine va_MetW (cc := cL_bounces) (maxL := 3) (ret := (some .int)) (hh := [(0, 5, 6, 13), (0, 5, 10, 19)]) (by decide) rfl ?_
  intro p e s m args below meth c s₁ BB hml hv
  obtain ⟨rfl, ⟨hsz, hP, hK, hD0⟩, hX, hZ⟩ := hv
  have hx := BB.exec
  have hb := BB.bytes
  have hr := BB.returns
  have hts := atoms_spec (ws := wsL_bounces) BB.pre
  have hown : s.vm.findClass RL = some m.cls := findClass_of_methodNamed BB.named
  have hlocks := BB.notSynchronized
  clear BB
  subst hsz
  have hD := hD0.self (sz := s.heap.size)
  clear hD0
  generalize hAe : va_A (wCA a cI cZ B R E (td)) s.heap.size = A at hD hZ ⊢
  have hA : ∀ q : Nat, s.heap.size ≤ q → A q := fun q h => by rw [← hAe]; exact Or.inr h
  clear hAe
  have hl := lv_entry ([.ref (a 0), .int (nI (rc))]) (n := 3) (Nat.le_of_ble_eq_true rfl)
  rw [lg_entry_eq]
  generalize (lg_sl ([.ref (a 0), .int (nI (rc))]) ++ List.replicate (3 - (lg_sl ([.ref (a 0), .int (nI (rc))])).length) Slot.unset).toArray = ls at hl ⊢
  have hl : lv_has ls 3 [(0, .ref (a 0)), (1, .int (nI (rc)))] := hl
  generalize hHe : s.heap = H at hP ⊢
  have hS : va_S A s.heap H [] := by rw [← hHe]; exact va_S.rf
  clear hHe
  generalize hLe : ([] : List Loc) = locs at hS ⊢
  clear hLe
  refine lv_aload_n hx hb dL_bounces_0 rfl (lv_at hl 0 rfl) ?_
  refine lv_iload_n hx hb dL_bounces_1 rfl (lv_at hl 1 rfl) ?_
  refine zcVi (ci := 3) (q0 := 0) (wf := (fun (u : (Nat → Nat → Int32) × (Nat → Nat → Int32)) => (wCA a cI cZ (u.1) (u.2) E (td)))) (List.range 26) ⟨hx, hb, hml, hown, hts⟩ (zwAll 26 (by decide) rfl hP hD hS hA) hK (c_X3_bounce l D cI cZ a H.size (B) (R) (E) (td) (n) (q) (rc) (by first | assumption | omega) (by first | assumption | omega) (by first | assumption | omega) (by first | assumption | omega) (by first | assumption | omega) (by first | assumption | omega) (by first | assumption | omega) (by first | assumption | omega)) (cwV 1 hts gL_bounces_X3_bounce rfl rfl rfl (by decide +kernel) ⟨Nat.le_of_ble_eq_true rfl, Nat.le_of_ble_eq_true rfl⟩) rfl rfl (by decide) (fun _ => rfl) rfl hl.1 rfl (Nat.le_of_ble_eq_true rfl) dL_bounces_2 ⟨Nat.le_of_ble_eq_true rfl, Nat.le_of_ble_eq_true rfl⟩ (fun r2 u H locs hw hP hD hS => ?_)
  obtain ⟨rfl, rfl⟩ := hw
  have hP : va_P D vwCl (wCA a cI cZ ((((bncL (rc) n 0 0 (B) (R)).2.1, mkB (bncL (rc) n 0 0 (B) (R)).2.2 (rc))).1) ((((bncL (rc) n 0 0 (B) (R)).2.1, mkB (bncL (rc) n 0 0 (B) (R)).2.2 (rc))).2) E (td)) H := hP
  have hD : va_D A (wCA a cI cZ ((((bncL (rc) n 0 0 (B) (R)).2.1, mkB (bncL (rc) n 0 0 (B) (R)).2.2 (rc))).1) ((((bncL (rc) n 0 0 (B) (R)).2.1, mkB (bncL (rc) n 0 0 (B) (R)).2.2 (rc))).2) E (td)) := hD
  exact W.iret (v := nI (bncL (rc) n 0 0 (B) (R)).1) hx hb hr (fun t ht hW => ⟨⟨nI (bncL (rc) n 0 0 (B) (R)).1, (), rfl, rfl, by rw [ht]; exact hP, va_K.moved hW.alike hK, hD⟩, hS.F ht⟩) hS.2.2 dL_bounces_5
set_option maxHeartbeats 4000000 in
set_option maxRecDepth 100000 in
theorem c_L_bounces_k (l : Launch) (hfl : l.stackTraces = false) (D : va_G) (cI cZ : ClassId) (a : Nat → Nat) (sz : Nat) (B : Nat → Nat → Int32) (R : Nat → Nat → Int32) (E : Nat → Nat → Int32) (td : Int32) (q : Nat) (vx : Int32) (kk : Nat) (rv : Int32) (hR : R 8 0 = nI q) (hq : q ≤ 30) (hk : bncK R vx = kk) (h0 : ¬ kk = 0) (hv : cdB kk = rv) : Met l yL_bounces wsL_bounces ({ frames := 8, cells := 1, slots := 6, locals := 134 } : Room) (va_Pc [.ref (a 0), .int (vx)] (PreX D cI cZ (wCA a cI cZ B R E (td)) sz)) (va_Qi (fun (r : Int32) (_ : Unit) => r = rv) (fun (_ : Unit) => PostW D cI cZ (va_A (wCA a cI cZ B R E (td)) sz) (wCA a cI cZ B R E (td))) (va_A (wCA a cI cZ B R E (td)) sz)) 1 6 (va_A (wCA a cI cZ B R E (td)) sz) := by
  refine va_MetW (cc := cL_bounces) (maxL := 3) (ret := (some .int)) (hh := [(0, 5, 6, 13), (0, 5, 10, 19)]) (by decide) rfl ?_
  intro p e s m args below meth c s₁ BB hml hv
  obtain ⟨rfl, ⟨hsz, hP, hK, hD0⟩, hX, hZ⟩ := hv
  have hx := BB.exec
  have hb := BB.bytes
  have hr := BB.returns
  have hts := atoms_spec (ws := wsL_bounces) BB.pre
  have hown : s.vm.findClass RL = some m.cls := findClass_of_methodNamed BB.named
  have hlocks := BB.notSynchronized
  have htab : c.exceptionTable.toList = tableOf [(0, 5, 6, 13), (0, 5, 10, 19)] := vx_table (x := yL_bounces) BB (hts (.codeWith yL_bounces cL_bounces 3 (some .int) [(0, 5, 6, 13), (0, 5, 10, 19)]) List.mem_cons_self)
  clear BB
  subst hsz
  have hD := hD0.self (sz := s.heap.size)
  clear hD0
  generalize hAe : va_A (wCA a cI cZ B R E (td)) s.heap.size = A at hD hZ ⊢
  have hA : ∀ q : Nat, s.heap.size ≤ q → A q := fun q h => by rw [← hAe]; exact Or.inr h
  clear hAe
  have hl := lv_entry ([.ref (a 0), .int (vx)]) (n := 3) (Nat.le_of_ble_eq_true rfl)
  rw [lg_entry_eq]
  generalize (lg_sl ([.ref (a 0), .int (vx)]) ++ List.replicate (3 - (lg_sl ([.ref (a 0), .int (vx)])).length) Slot.unset).toArray = ls at hl ⊢
  have hl : lv_has ls 3 [(0, .ref (a 0)), (1, .int (vx))] := hl
  generalize hHe : s.heap = H at hP ⊢
  have hS : va_S A s.heap H [] := by rw [← hHe]; exact va_S.rf
  clear hHe
  generalize hLe : ([] : List Loc) = locs at hS ⊢
  clear hLe
  refine lv_aload_n hx hb dL_bounces_0 rfl (lv_at hl 0 rfl) ?_
  refine lv_iload_n hx hb dL_bounces_1 rfl (lv_at hl 1 rfl) ?_
  have hkc : bncK R vx = kk := hk
  rcases (show bncK R vx = 0 ∨ bncK R vx = 1 ∨ bncK R vx = 2 from bncK_c).resolve_left (fun z => h0 (hkc.symm.trans z)) with hk1 | hk2
  · -- 1
    refine zxV (ci := 3) (q0 := 0) kCA ⟨hx, hb, hml, hown, hts⟩ (zwCA hP hD hS hA) hK hX hZ (x_X3_bounce l hfl D cI cZ a H.size (B) (R) (E) (td) (q) (vx) eI (hR) (hq) (fun z => h0 (hkc.symm.trans z)) (by rw [hk1]; rfl)) (cwV 1 hts gL_bounces_X3_bounce rfl rfl rfl (by decide +kernel) ⟨Nat.le_of_ble_eq_true rfl, Nat.le_of_ble_eq_true rfl⟩) rfl rfl (by decide) rfl rfl hl.1 rfl (Nat.le_of_ble_eq_true rfl) dL_bounces_2 ⟨Nat.le_of_ble_eq_true rfl, Nat.le_of_ble_eq_true rfl⟩ (fun ce q9 H locs hP hD hS hce hcv hcl => ?_)
    refine vx_catch (E := eI) (name := eI) hown [] ⟨0, 5, 6, 13⟩ [⟨0, 5, 10, 19⟩] htab (fun z hz => nomatch hz) rfl (by decide) (hts (.classLink RL 13 "java/lang/IndexOutOfBoundsException") (by decide +kernel)) (va_Nw.use rfl (hX.1.2.1)) hce hcv hcl ?_
    refine lv_astore_n (lv' := [(2, .ref (q9)), (0, .ref (a 0)), (1, .int (vx))]) hx hb dL_bounces_6 rfl hl (by decide) rfl (fun ls hl => ?_)
    refine lv_ldc (v := -2000000001) hx hb hown (hts (.constant RL 15 (-2000000001)) (by decide +kernel)) dL_bounces_7 ?_
    exact W.iret (v := (-2000000001)) hx hb hr (fun t ht hW => ⟨⟨(-2000000001), (), rfl, (by rw [← hv, ← hkc, hk1]; rfl), by rw [ht]; exact hP, va_K.moved hW.alike hK, hD⟩, hS.F ht⟩) hS.2.2 dL_bounces_9
  · -- 2
    refine zxV (ci := 3) (q0 := 0) kCA ⟨hx, hb, hml, hown, hts⟩ (zwCA hP hD hS hA) hK hX hZ (x_X3_bounce l hfl D cI cZ a H.size (B) (R) (E) (td) (q) (vx) eS (hR) (hq) (fun z => h0 (hkc.symm.trans z)) (by rw [hk2]; rfl)) (cwV 1 hts gL_bounces_X3_bounce rfl rfl rfl (by decide +kernel) ⟨Nat.le_of_ble_eq_true rfl, Nat.le_of_ble_eq_true rfl⟩) rfl rfl (by decide) rfl rfl hl.1 rfl (Nat.le_of_ble_eq_true rfl) dL_bounces_2 ⟨Nat.le_of_ble_eq_true rfl, Nat.le_of_ble_eq_true rfl⟩ (fun ce q9 H locs hP hD hS hce hcv hcl => ?_)
    refine vx_catch (E := eS) (name := eS) hown [⟨0, 5, 6, 13⟩] ⟨0, 5, 10, 19⟩ [] htab (List.forall_mem_cons.mpr ⟨Or.inr ⟨by decide, eI, hts (.classLink RL 13 "java/lang/IndexOutOfBoundsException") (by decide +kernel), hX.2.2.2.1⟩, fun z hz => nomatch hz⟩) rfl (by decide) (hts (.classLink RL 19 "java/lang/IllegalStateException") (by decide +kernel)) (va_Nw.use rfl (hX.1.2.2.2)) hce hcv hcl ?_
    refine lv_astore_n (lv' := [(2, .ref (q9)), (0, .ref (a 0)), (1, .int (vx))]) hx hb dL_bounces_10 rfl hl (by decide) rfl (fun ls hl => ?_)
    refine lv_ldc (v := -2000000003) hx hb hown (hts (.constant RL 21 (-2000000003)) (by decide +kernel)) dL_bounces_11 ?_
    exact W.iret (v := (-2000000003)) hx hb hr (fun t ht hW => ⟨⟨(-2000000003), (), rfl, (by rw [← hv, ← hkc, hk2]; rfl), by rw [ht]; exact hP, va_K.moved hW.alike hK, hD⟩, hS.F ht⟩) hS.2.2 dL_bounces_13
set_option maxHeartbeats 4000000 in
set_option maxRecDepth 100000 in
theorem c_L_settles_0 (l : Launch) (D : va_G) (cI cZ : ClassId) (a : Nat → Nat) (sz : Nat) (B : Nat → Nat → Int32) (R : Nat → Nat → Int32) (E : Nat → Nat → Int32) (td : Int32) (n : Nat) (i : Nat) (zz : Int32) (hB : B 11 0 = nI n) (hn : n ≤ 40) (hbn : i < n) (h8 : ¬ B 8 i = 0) : Met l yL_settles wsL_settles ({ frames := 2, cells := 0, slots := 0, locals := 45 } : Room) (va_Pc [.ref (a 0), .int (nI (i)), .int (zz)] (PreX D cI cZ (wCA a cI cZ B R E (td)) sz)) (va_Qi (fun (r : Int32) (_ : Unit) => r = B 8 i) (fun (_ : Unit) => PostW D cI cZ (va_A (wCA a cI cZ B R E (td)) sz) (wCA a cI cZ (edD B i zz) R E (td))) (va_A (wCA a cI cZ B R E (td)) sz)) 0 0 (va_A (wCA a cI cZ B R E (td)) sz) := by
  refine va_MetW (cc := cL_settles) (maxL := 4) (ret := (some .int)) (hh := [(0, 6, 7, 13), (0, 6, 11, 19)]) (by decide) rfl ?_
  intro p e s m args below meth c s₁ BB hml hv
  obtain ⟨rfl, ⟨hsz, hP, hK, hD0⟩, hX, hZ⟩ := hv
  have hx := BB.exec
  have hb := BB.bytes
  have hr := BB.returns
  have hts := atoms_spec (ws := wsL_settles) BB.pre
  have hown : s.vm.findClass RL = some m.cls := findClass_of_methodNamed BB.named
  have hlocks := BB.notSynchronized
  clear BB
  subst hsz
  have hD := hD0.self (sz := s.heap.size)
  clear hD0
  generalize hAe : va_A (wCA a cI cZ B R E (td)) s.heap.size = A at hD hZ ⊢
  have hA : ∀ q : Nat, s.heap.size ≤ q → A q := fun q h => by rw [← hAe]; exact Or.inr h
  clear hAe
  have hl := lv_entry ([.ref (a 0), .int (nI (i)), .int (zz)]) (n := 4) (Nat.le_of_ble_eq_true rfl)
  rw [lg_entry_eq]
  generalize (lg_sl ([.ref (a 0), .int (nI (i)), .int (zz)]) ++ List.replicate (4 - (lg_sl ([.ref (a 0), .int (nI (i)), .int (zz)])).length) Slot.unset).toArray = ls at hl ⊢
  have hl : lv_has ls 4 [(0, .ref (a 0)), (1, .int (nI (i))), (2, .int (zz))] := hl
  generalize hHe : s.heap = H at hP ⊢
  have hS : va_S A s.heap H [] := by rw [← hHe]; exact va_S.rf
  clear hHe
  generalize hLe : ([] : List Loc) = locs at hS ⊢
  clear hLe
  refine lv_aload_n hx hb dL_settles_0 rfl (lv_at hl 0 rfl) ?_
  refine lv_iload_n hx hb dL_settles_1 rfl (lv_at hl 1 rfl) ?_
  refine lv_iload_n hx hb dL_settles_2 rfl (lv_at hl 2 rfl) ?_
  refine zcVi (ci := 3) (q0 := 0) (wf := (fun (u : Nat → Nat → Int32) => (wCA a cI cZ u R E (td)))) (List.range 26) ⟨hx, hb, hml, hown, hts⟩ (zwAll 26 (by decide) rfl hP hD hS hA) hK (c_X3_settle l D cI cZ a H.size (B) (R) (E) (td) (n) (i) (zz) (by first | assumption | omega) (by first | assumption | omega) (by first | assumption | omega) (by first | assumption | omega)) (cwV 2 hts gL_settles_X3_settle rfl rfl rfl (by decide +kernel) ⟨Nat.le_of_ble_eq_true rfl, Nat.le_of_ble_eq_true rfl⟩) rfl rfl (by decide) (fun _ => rfl) rfl hl.1 rfl (Nat.le_of_ble_eq_true rfl) dL_settles_3 ⟨Nat.le_of_ble_eq_true rfl, Nat.le_of_ble_eq_true rfl⟩ (fun r3 u H locs hw hP hD hS => ?_)
  obtain ⟨rfl, rfl⟩ := hw
  have hP : va_P D vwCl (wCA a cI cZ (edD (B) (i) (zz)) R E (td)) H := hP
  have hD : va_D A (wCA a cI cZ (edD (B) (i) (zz)) R E (td)) := hD
  exact W.iret (v := (B) 8 (i)) hx hb hr (fun t ht hW => ⟨⟨(B) 8 (i), (), rfl, rfl, by rw [ht]; exact hP, va_K.moved hW.alike hK, hD⟩, hS.F ht⟩) hS.2.2 dL_settles_6
set_option maxHeartbeats 4000000 in
set_option maxRecDepth 100000 in
theorem c_L_settles_k (l : Launch) (hfl : l.stackTraces = false) (D : va_G) (cI cZ : ClassId) (a : Nat → Nat) (sz : Nat) (B : Nat → Nat → Int32) (R : Nat → Nat → Int32) (E : Nat → Nat → Int32) (td : Int32) (n : Nat) (vx : Int32) (zz : Int32) (kk : Nat) (rv : Int32) (hB : B 11 0 = nI n) (hn : n ≤ 40) (hk : stlK B vx = kk) (h0 : ¬ kk = 0) (hv : cdB kk = rv) : Met l yL_settles wsL_settles ({ frames := 8, cells := 1, slots := 6, locals := 133 } : Room) (va_Pc [.ref (a 0), .int (vx), .int (zz)] (PreX D cI cZ (wCA a cI cZ B R E (td)) sz)) (va_Qi (fun (r : Int32) (_ : Unit) => r = rv) (fun (_ : Unit) => PostW D cI cZ (va_A (wCA a cI cZ B R E (td)) sz) (wCA a cI cZ B R E (td))) (va_A (wCA a cI cZ B R E (td)) sz)) 1 6 (va_A (wCA a cI cZ B R E (td)) sz) := by
  refine va_MetW (cc := cL_settles) (maxL := 4) (ret := (some .int)) (hh := [(0, 6, 7, 13), (0, 6, 11, 19)]) (by decide) rfl ?_
  intro p e s m args below meth c s₁ BB hml hv
  obtain ⟨rfl, ⟨hsz, hP, hK, hD0⟩, hX, hZ⟩ := hv
  have hx := BB.exec
  have hb := BB.bytes
  have hr := BB.returns
  have hts := atoms_spec (ws := wsL_settles) BB.pre
  have hown : s.vm.findClass RL = some m.cls := findClass_of_methodNamed BB.named
  have hlocks := BB.notSynchronized
  have htab : c.exceptionTable.toList = tableOf [(0, 6, 7, 13), (0, 6, 11, 19)] := vx_table (x := yL_settles) BB (hts (.codeWith yL_settles cL_settles 4 (some .int) [(0, 6, 7, 13), (0, 6, 11, 19)]) List.mem_cons_self)
  clear BB
  subst hsz
  have hD := hD0.self (sz := s.heap.size)
  clear hD0
  generalize hAe : va_A (wCA a cI cZ B R E (td)) s.heap.size = A at hD hZ ⊢
  have hA : ∀ q : Nat, s.heap.size ≤ q → A q := fun q h => by rw [← hAe]; exact Or.inr h
  clear hAe
  have hl := lv_entry ([.ref (a 0), .int (vx), .int (zz)]) (n := 4) (Nat.le_of_ble_eq_true rfl)
  rw [lg_entry_eq]
  generalize (lg_sl ([.ref (a 0), .int (vx), .int (zz)]) ++ List.replicate (4 - (lg_sl ([.ref (a 0), .int (vx), .int (zz)])).length) Slot.unset).toArray = ls at hl ⊢
  have hl : lv_has ls 4 [(0, .ref (a 0)), (1, .int (vx)), (2, .int (zz))] := hl
  generalize hHe : s.heap = H at hP ⊢
  have hS : va_S A s.heap H [] := by rw [← hHe]; exact va_S.rf
  clear hHe
  generalize hLe : ([] : List Loc) = locs at hS ⊢
  clear hLe
  refine lv_aload_n hx hb dL_settles_0 rfl (lv_at hl 0 rfl) ?_
  refine lv_iload_n hx hb dL_settles_1 rfl (lv_at hl 1 rfl) ?_
  refine lv_iload_n hx hb dL_settles_2 rfl (lv_at hl 2 rfl) ?_
  have hkc : stlK B vx = kk := hk
  rcases (show stlK B vx = 0 ∨ stlK B vx = 1 ∨ stlK B vx = 2 from stlK_c).resolve_left (fun z => h0 (hkc.symm.trans z)) with hk1 | hk2
  · -- 1
    refine zxV (ci := 3) (q0 := 0) kCA ⟨hx, hb, hml, hown, hts⟩ (zwCA hP hD hS hA) hK hX hZ (x_X3_settle l hfl D cI cZ a H.size (B) (R) (E) (td) (n) (vx) (zz) eI (hB) (hn) (fun z => h0 (hkc.symm.trans z)) (by rw [hk1]; rfl)) (cwV 2 hts gL_settles_X3_settle rfl rfl rfl (by decide +kernel) ⟨Nat.le_of_ble_eq_true rfl, Nat.le_of_ble_eq_true rfl⟩) rfl rfl (by decide) rfl rfl hl.1 rfl (Nat.le_of_ble_eq_true rfl) dL_settles_3 ⟨Nat.le_of_ble_eq_true rfl, Nat.le_of_ble_eq_true rfl⟩ (fun ce q9 H locs hP hD hS hce hcv hcl => ?_)
    refine vx_catch (E := eI) (name := eI) hown [] ⟨0, 6, 7, 13⟩ [⟨0, 6, 11, 19⟩] htab (fun z hz => nomatch hz) rfl (by decide) (hts (.classLink RL 13 "java/lang/IndexOutOfBoundsException") (by decide +kernel)) (va_Nw.use rfl (hX.1.2.1)) hce hcv hcl ?_
    refine lv_astore_n (lv' := [(3, .ref (q9)), (0, .ref (a 0)), (1, .int (vx)), (2, .int (zz))]) hx hb dL_settles_7 rfl hl (by decide) rfl (fun ls hl => ?_)
    refine lv_ldc (v := -2000000001) hx hb hown (hts (.constant RL 15 (-2000000001)) (by decide +kernel)) dL_settles_8 ?_
    exact W.iret (v := (-2000000001)) hx hb hr (fun t ht hW => ⟨⟨(-2000000001), (), rfl, (by rw [← hv, ← hkc, hk1]; rfl), by rw [ht]; exact hP, va_K.moved hW.alike hK, hD⟩, hS.F ht⟩) hS.2.2 dL_settles_10
  · -- 2
    refine zxV (ci := 3) (q0 := 0) kCA ⟨hx, hb, hml, hown, hts⟩ (zwCA hP hD hS hA) hK hX hZ (x_X3_settle l hfl D cI cZ a H.size (B) (R) (E) (td) (n) (vx) (zz) eS (hB) (hn) (fun z => h0 (hkc.symm.trans z)) (by rw [hk2]; rfl)) (cwV 2 hts gL_settles_X3_settle rfl rfl rfl (by decide +kernel) ⟨Nat.le_of_ble_eq_true rfl, Nat.le_of_ble_eq_true rfl⟩) rfl rfl (by decide) rfl rfl hl.1 rfl (Nat.le_of_ble_eq_true rfl) dL_settles_3 ⟨Nat.le_of_ble_eq_true rfl, Nat.le_of_ble_eq_true rfl⟩ (fun ce q9 H locs hP hD hS hce hcv hcl => ?_)
    refine vx_catch (E := eS) (name := eS) hown [⟨0, 6, 7, 13⟩] ⟨0, 6, 11, 19⟩ [] htab (List.forall_mem_cons.mpr ⟨Or.inr ⟨by decide, eI, hts (.classLink RL 13 "java/lang/IndexOutOfBoundsException") (by decide +kernel), hX.2.2.2.1⟩, fun z hz => nomatch hz⟩) rfl (by decide) (hts (.classLink RL 19 "java/lang/IllegalStateException") (by decide +kernel)) (va_Nw.use rfl (hX.1.2.2.2)) hce hcv hcl ?_
    refine lv_astore_n (lv' := [(3, .ref (q9)), (0, .ref (a 0)), (1, .int (vx)), (2, .int (zz))]) hx hb dL_settles_11 rfl hl (by decide) rfl (fun ls hl => ?_)
    refine lv_ldc (v := -2000000003) hx hb hown (hts (.constant RL 21 (-2000000003)) (by decide +kernel)) dL_settles_12 ?_
    exact W.iret (v := (-2000000003)) hx hb hr (fun t ht hW => ⟨⟨(-2000000003), (), rfl, (by rw [← hv, ← hkc, hk2]; rfl), by rw [ht]; exact hP, va_K.moved hW.alike hK, hD⟩, hS.F ht⟩) hS.2.2 dL_settles_14
set_option maxHeartbeats 4000000 in
set_option maxRecDepth 100000 in
theorem c_L_advances_0 (l : Launch) (D : va_G) (cI cZ : ClassId) (a : Nat → Nat) (sz : Nat) (B : Nat → Nat → Int32) (R : Nat → Nat → Int32) (E : Nat → Nat → Int32) (td : Int32) (dd : Int32) (h1 : ¬ dd < 1) (h2 : dd ≤ 100) : Met l yL_advances wsL_advances ({ frames := 2, cells := 0, slots := 0, locals := 43 } : Room) (va_Pc [.ref (a 0), .int (dd)] (PreX D cI cZ (wCA a cI cZ B R E (td)) sz)) (va_Qi (fun (r : Int32) (_ : Unit) => r = td + dd) (fun (_ : Unit) => PostW D cI cZ (va_A (wCA a cI cZ B R E (td)) sz) (wCA a cI cZ B R E ((td + dd)))) (va_A (wCA a cI cZ B R E (td)) sz)) 0 0 (va_A (wCA a cI cZ B R E (td)) sz) := by
  refine va_MetW (cc := cL_advances) (maxL := 3) (ret := (some .int)) (hh := [(0, 5, 6, 16)]) (by decide) rfl ?_
  intro p e s m args below meth c s₁ BB hml hv
  obtain ⟨rfl, ⟨hsz, hP, hK, hD0⟩, hX, hZ⟩ := hv
  have hx := BB.exec
  have hb := BB.bytes
  have hr := BB.returns
  have hts := atoms_spec (ws := wsL_advances) BB.pre
  have hown : s.vm.findClass RL = some m.cls := findClass_of_methodNamed BB.named
  have hlocks := BB.notSynchronized
  clear BB
  subst hsz
  have hD := hD0.self (sz := s.heap.size)
  clear hD0
  generalize hAe : va_A (wCA a cI cZ B R E (td)) s.heap.size = A at hD hZ ⊢
  have hA : ∀ q : Nat, s.heap.size ≤ q → A q := fun q h => by rw [← hAe]; exact Or.inr h
  clear hAe
  have hl := lv_entry ([.ref (a 0), .int (dd)]) (n := 3) (Nat.le_of_ble_eq_true rfl)
  rw [lg_entry_eq]
  generalize (lg_sl ([.ref (a 0), .int (dd)]) ++ List.replicate (3 - (lg_sl ([.ref (a 0), .int (dd)])).length) Slot.unset).toArray = ls at hl ⊢
  have hl : lv_has ls 3 [(0, .ref (a 0)), (1, .int (dd))] := hl
  generalize hHe : s.heap = H at hP ⊢
  have hS : va_S A s.heap H [] := by rw [← hHe]; exact va_S.rf
  clear hHe
  generalize hLe : ([] : List Loc) = locs at hS ⊢
  clear hLe
  refine lv_aload_n hx hb dL_advances_0 rfl (lv_at hl 0 rfl) ?_
  refine lv_iload_n hx hb dL_advances_1 rfl (lv_at hl 1 rfl) ?_
  refine zcVi (ci := 3) (q0 := 0) (wf := (fun (u : Int32) => (wCA a cI cZ B R E (u)))) (List.range 26) ⟨hx, hb, hml, hown, hts⟩ (zwAll 26 (by decide) rfl hP hD hS hA) hK (c_X3_advance l D cI cZ a H.size (B) (R) (E) (td) (dd) (by first | assumption | omega) (by first | assumption | omega)) (cwV 1 hts gL_advances_X3_advance rfl rfl rfl (by decide +kernel) ⟨Nat.le_of_ble_eq_true rfl, Nat.le_of_ble_eq_true rfl⟩) rfl rfl (by decide) (fun _ => rfl) rfl hl.1 rfl (Nat.le_of_ble_eq_true rfl) dL_advances_2 ⟨Nat.le_of_ble_eq_true rfl, Nat.le_of_ble_eq_true rfl⟩ (fun r2 u H locs hw hP hD hS => ?_)
  obtain ⟨rfl, rfl⟩ := hw
  have hP : va_P D vwCl (wCA a cI cZ B R E ((td) + (dd))) H := hP
  have hD : va_D A (wCA a cI cZ B R E ((td) + (dd))) := hD
  exact W.iret (v := (td) + (dd)) hx hb hr (fun t ht hW => ⟨⟨(td) + (dd), (), rfl, rfl, by rw [ht]; exact hP, va_K.moved hW.alike hK, hD⟩, hS.F ht⟩) hS.2.2 dL_advances_5
set_option maxHeartbeats 4000000 in
set_option maxRecDepth 100000 in
theorem c_L_advances_k (l : Launch) (hfl : l.stackTraces = false) (D : va_G) (cI cZ : ClassId) (a : Nat → Nat) (sz : Nat) (B : Nat → Nat → Int32) (R : Nat → Nat → Int32) (E : Nat → Nat → Int32) (td : Int32) (dd : Int32) (h : dd < 1 ∨ ¬ dd ≤ 100) : Met l yL_advances wsL_advances ({ frames := 8, cells := 1, slots := 6, locals := 133 } : Room) (va_Pc [.ref (a 0), .int (dd)] (PreX D cI cZ (wCA a cI cZ B R E (td)) sz)) (va_Qi (fun (r : Int32) (_ : Unit) => r = (-2000000002)) (fun (_ : Unit) => PostW D cI cZ (va_A (wCA a cI cZ B R E (td)) sz) (wCA a cI cZ B R E (td))) (va_A (wCA a cI cZ B R E (td)) sz)) 1 6 (va_A (wCA a cI cZ B R E (td)) sz) := by
  refine va_MetW (cc := cL_advances) (maxL := 3) (ret := (some .int)) (hh := [(0, 5, 6, 16)]) (by decide) rfl ?_
  intro p e s m args below meth c s₁ BB hml hv
  obtain ⟨rfl, ⟨hsz, hP, hK, hD0⟩, hX, hZ⟩ := hv
  have hx := BB.exec
  have hb := BB.bytes
  have hr := BB.returns
  have hts := atoms_spec (ws := wsL_advances) BB.pre
  have hown : s.vm.findClass RL = some m.cls := findClass_of_methodNamed BB.named
  have hlocks := BB.notSynchronized
  have htab : c.exceptionTable.toList = tableOf [(0, 5, 6, 16)] := vx_table (x := yL_advances) BB (hts (.codeWith yL_advances cL_advances 3 (some .int) [(0, 5, 6, 16)]) List.mem_cons_self)
  clear BB
  subst hsz
  have hD := hD0.self (sz := s.heap.size)
  clear hD0
  generalize hAe : va_A (wCA a cI cZ B R E (td)) s.heap.size = A at hD hZ ⊢
  have hA : ∀ q : Nat, s.heap.size ≤ q → A q := fun q h => by rw [← hAe]; exact Or.inr h
  clear hAe
  have hl := lv_entry ([.ref (a 0), .int (dd)]) (n := 3) (Nat.le_of_ble_eq_true rfl)
  rw [lg_entry_eq]
  generalize (lg_sl ([.ref (a 0), .int (dd)]) ++ List.replicate (3 - (lg_sl ([.ref (a 0), .int (dd)])).length) Slot.unset).toArray = ls at hl ⊢
  have hl : lv_has ls 3 [(0, .ref (a 0)), (1, .int (dd))] := hl
  generalize hHe : s.heap = H at hP ⊢
  have hS : va_S A s.heap H [] := by rw [← hHe]; exact va_S.rf
  clear hHe
  generalize hLe : ([] : List Loc) = locs at hS ⊢
  clear hLe
  refine lv_aload_n hx hb dL_advances_0 rfl (lv_at hl 0 rfl) ?_
  refine lv_iload_n hx hb dL_advances_1 rfl (lv_at hl 1 rfl) ?_
  refine zxV (ci := 3) (q0 := 0) kCA ⟨hx, hb, hml, hown, hts⟩ (zwCA hP hD hS hA) hK hX hZ (x_X3_advance l hfl D cI cZ a H.size (B) (R) (E) (td) (dd) (h)) (cwV 1 hts gL_advances_X3_advance rfl rfl rfl (by decide +kernel) ⟨Nat.le_of_ble_eq_true rfl, Nat.le_of_ble_eq_true rfl⟩) rfl rfl (by decide) rfl rfl hl.1 rfl (Nat.le_of_ble_eq_true rfl) dL_advances_2 ⟨Nat.le_of_ble_eq_true rfl, Nat.le_of_ble_eq_true rfl⟩ (fun ce q9 H locs hP hD hS hce hcv hcl => ?_)
  refine vx_catch (E := eA) (name := eA) hown [] ⟨0, 5, 6, 16⟩ [] htab (fun z hz => nomatch hz) rfl (by decide) (hts (.classLink RL 16 "java/lang/IllegalArgumentException") (by decide +kernel)) (va_Nw.use rfl (hX.1.2.2.1)) hce hcv hcl ?_
  refine lv_astore_n (lv' := [(2, .ref (q9)), (0, .ref (a 0)), (1, .int (dd))]) hx hb dL_advances_6 rfl hl (by decide) rfl (fun ls hl => ?_)
  refine lv_ldc (v := -2000000002) hx hb hown (hts (.constant RL 18 (-2000000002)) (by decide +kernel)) dL_advances_7 ?_
  exact W.iret (v := (-2000000002)) hx hb hr (fun t ht hW => ⟨⟨(-2000000002), (), rfl, rfl, by rw [ht]; exact hP, va_K.moved hW.alike hK, hD⟩, hS.F ht⟩) hS.2.2 dL_advances_9
set_option maxHeartbeats 4000000 in
set_option maxRecDepth 100000 in
theorem c_L_open_0 (l : Launch) (D : va_G) (cI cZ : ClassId) (a : Nat → Nat) (sz : Nat) (B : Nat → Nat → Int32) (R : Nat → Nat → Int32) (E : Nat → Nat → Int32) (td : Int32) (n : Nat) (i : Nat) (hB : B 11 0 = nI n) (hn : n ≤ 40) (hbn : i < n) : Met l yL_open wsL_open ({ frames := 2, cells := 0, slots := 0, locals := 42 } : Room) (va_Pc [.ref (a 0), .int (nI (i))] (PreX D cI cZ (wCA a cI cZ B R E (td)) sz)) (va_Qi (fun (r : Int32) (_ : Unit) => r = opn B i) (fun (_ : Unit) => PostW D cI cZ (va_A (wCA a cI cZ B R E (td)) sz) (wCA a cI cZ B R E (td))) (va_A (wCA a cI cZ B R E (td)) sz)) 0 0 (va_A (wCA a cI cZ B R E (td)) sz) := by
  refine va_MetW (cc := cL_open) (maxL := 3) (ret := (some .int)) (hh := [(0, 5, 6, 13)]) (by decide) rfl ?_
  intro p e s m args below meth c s₁ BB hml hv
  obtain ⟨rfl, ⟨hsz, hP, hK, hD0⟩, hX, hZ⟩ := hv
  have hx := BB.exec
  have hb := BB.bytes
  have hr := BB.returns
  have hts := atoms_spec (ws := wsL_open) BB.pre
  have hown : s.vm.findClass RL = some m.cls := findClass_of_methodNamed BB.named
  have hlocks := BB.notSynchronized
  clear BB
  subst hsz
  have hD := hD0.self (sz := s.heap.size)
  clear hD0
  generalize hAe : va_A (wCA a cI cZ B R E (td)) s.heap.size = A at hD hZ ⊢
  have hA : ∀ q : Nat, s.heap.size ≤ q → A q := fun q h => by rw [← hAe]; exact Or.inr h
  clear hAe
  have hl := lv_entry ([.ref (a 0), .int (nI (i))]) (n := 3) (Nat.le_of_ble_eq_true rfl)
  rw [lg_entry_eq]
  generalize (lg_sl ([.ref (a 0), .int (nI (i))]) ++ List.replicate (3 - (lg_sl ([.ref (a 0), .int (nI (i))])).length) Slot.unset).toArray = ls at hl ⊢
  have hl : lv_has ls 3 [(0, .ref (a 0)), (1, .int (nI (i)))] := hl
  generalize hHe : s.heap = H at hP ⊢
  have hS : va_S A s.heap H [] := by rw [← hHe]; exact va_S.rf
  clear hHe
  generalize hLe : ([] : List Loc) = locs at hS ⊢
  clear hLe
  refine lv_aload_n hx hb dL_open_0 rfl (lv_at hl 0 rfl) ?_
  refine lv_iload_n hx hb dL_open_1 rfl (lv_at hl 1 rfl) ?_
  refine zcVi (ci := 3) (q0 := 0) (wf := (fun (u : Unit) => (wCA a cI cZ B R E (td)))) (List.range 26) ⟨hx, hb, hml, hown, hts⟩ (zwAll 26 (by decide) rfl hP hD hS hA) hK (c_X3_open l D cI cZ a H.size (B) (R) (E) (td) (n) (i) (by first | assumption | omega) (by first | assumption | omega) (by first | assumption | omega)) (cwV 1 hts gL_open_X3_open rfl rfl rfl (by decide +kernel) ⟨Nat.le_of_ble_eq_true rfl, Nat.le_of_ble_eq_true rfl⟩) rfl rfl (by decide) (fun _ => rfl) rfl hl.1 rfl (Nat.le_of_ble_eq_true rfl) dL_open_2 ⟨Nat.le_of_ble_eq_true rfl, Nat.le_of_ble_eq_true rfl⟩ (fun r2 u H locs hw hP hD hS => ?_)
  subst hw
  exact W.iret (v := opn (B) (i)) hx hb hr (fun t ht hW => ⟨⟨opn (B) (i), (), rfl, rfl, by rw [ht]; exact hP, va_K.moved hW.alike hK, hD⟩, hS.F ht⟩) hS.2.2 dL_open_5
set_option maxHeartbeats 4000000 in
set_option maxRecDepth 100000 in
theorem c_L_open_k (l : Launch) (hfl : l.stackTraces = false) (D : va_G) (cI cZ : ClassId) (a : Nat → Nat) (sz : Nat) (B : Nat → Nat → Int32) (R : Nat → Nat → Int32) (E : Nat → Nat → Int32) (td : Int32) (vx : Int32) (h : vx < 0 ∨ ¬ vx < B 11 0) : Met l yL_open wsL_open ({ frames := 8, cells := 1, slots := 6, locals := 132 } : Room) (va_Pc [.ref (a 0), .int (vx)] (PreX D cI cZ (wCA a cI cZ B R E (td)) sz)) (va_Qi (fun (r : Int32) (_ : Unit) => r = (-2000000001)) (fun (_ : Unit) => PostW D cI cZ (va_A (wCA a cI cZ B R E (td)) sz) (wCA a cI cZ B R E (td))) (va_A (wCA a cI cZ B R E (td)) sz)) 1 6 (va_A (wCA a cI cZ B R E (td)) sz) := by
  refine va_MetW (cc := cL_open) (maxL := 3) (ret := (some .int)) (hh := [(0, 5, 6, 13)]) (by decide) rfl ?_
  intro p e s m args below meth c s₁ BB hml hv
  obtain ⟨rfl, ⟨hsz, hP, hK, hD0⟩, hX, hZ⟩ := hv
  have hx := BB.exec
  have hb := BB.bytes
  have hr := BB.returns
  have hts := atoms_spec (ws := wsL_open) BB.pre
  have hown : s.vm.findClass RL = some m.cls := findClass_of_methodNamed BB.named
  have hlocks := BB.notSynchronized
  have htab : c.exceptionTable.toList = tableOf [(0, 5, 6, 13)] := vx_table (x := yL_open) BB (hts (.codeWith yL_open cL_open 3 (some .int) [(0, 5, 6, 13)]) List.mem_cons_self)
  clear BB
  subst hsz
  have hD := hD0.self (sz := s.heap.size)
  clear hD0
  generalize hAe : va_A (wCA a cI cZ B R E (td)) s.heap.size = A at hD hZ ⊢
  have hA : ∀ q : Nat, s.heap.size ≤ q → A q := fun q h => by rw [← hAe]; exact Or.inr h
  clear hAe
  have hl := lv_entry ([.ref (a 0), .int (vx)]) (n := 3) (Nat.le_of_ble_eq_true rfl)
  rw [lg_entry_eq]
  generalize (lg_sl ([.ref (a 0), .int (vx)]) ++ List.replicate (3 - (lg_sl ([.ref (a 0), .int (vx)])).length) Slot.unset).toArray = ls at hl ⊢
  have hl : lv_has ls 3 [(0, .ref (a 0)), (1, .int (vx))] := hl
  generalize hHe : s.heap = H at hP ⊢
  have hS : va_S A s.heap H [] := by rw [← hHe]; exact va_S.rf
  clear hHe
  generalize hLe : ([] : List Loc) = locs at hS ⊢
  clear hLe
  refine lv_aload_n hx hb dL_open_0 rfl (lv_at hl 0 rfl) ?_
  refine lv_iload_n hx hb dL_open_1 rfl (lv_at hl 1 rfl) ?_
  refine zxV (ci := 3) (q0 := 0) kCA ⟨hx, hb, hml, hown, hts⟩ (zwCA hP hD hS hA) hK hX hZ (x_X3_open l hfl D cI cZ a H.size (B) (R) (E) (td) (vx) (h)) (cwV 1 hts gL_open_X3_open rfl rfl rfl (by decide +kernel) ⟨Nat.le_of_ble_eq_true rfl, Nat.le_of_ble_eq_true rfl⟩) rfl rfl (by decide) rfl rfl hl.1 rfl (Nat.le_of_ble_eq_true rfl) dL_open_2 ⟨Nat.le_of_ble_eq_true rfl, Nat.le_of_ble_eq_true rfl⟩ (fun ce q9 H locs hP hD hS hce hcv hcl => ?_)
  refine vx_catch (E := eI) (name := eI) hown [] ⟨0, 5, 6, 13⟩ [] htab (fun z hz => nomatch hz) rfl (by decide) (hts (.classLink RL 13 "java/lang/IndexOutOfBoundsException") (by decide +kernel)) (va_Nw.use rfl (hX.1.2.1)) hce hcv hcl ?_
  refine lv_astore_n (lv' := [(2, .ref (q9)), (0, .ref (a 0)), (1, .int (vx))]) hx hb dL_open_6 rfl hl (by decide) rfl (fun ls hl => ?_)
  refine lv_ldc (v := -2000000001) hx hb hown (hts (.constant RL 15 (-2000000001)) (by decide +kernel)) dL_open_7 ?_
  exact W.iret (v := (-2000000001)) hx hb hr (fun t ht hW => ⟨⟨(-2000000001), (), rfl, rfl, by rw [ht]; exact hP, va_K.moved hW.alike hK, hD⟩, hS.F ht⟩) hS.2.2 dL_open_9
set_option maxHeartbeats 4000000 in
set_option maxRecDepth 100000 in
theorem c_L_due_0 (l : Launch) (D : va_G) (cI cZ : ClassId) (a : Nat → Nat) (sz : Nat) (B : Nat → Nat → Int32) (R : Nat → Nat → Int32) (E : Nat → Nat → Int32) (td : Int32) (n : Nat) (i : Nat) (hB : B 11 0 = nI n) (hn : n ≤ 40) (hbn : i < n) : Met l yL_due wsL_due ({ frames := 4, cells := 0, slots := 0, locals := 87 } : Room) (va_Pc [.ref (a 0), .int (nI (i))] (PreX D cI cZ (wCA a cI cZ B R E (td)) sz)) (va_Qi (fun (r : Int32) (_ : Unit) => r = dueN B i td) (fun (_ : Unit) => PostW D cI cZ (va_A (wCA a cI cZ B R E (td)) sz) (wCA a cI cZ B R E (td))) (va_A (wCA a cI cZ B R E (td)) sz)) 0 0 (va_A (wCA a cI cZ B R E (td)) sz) := by
  refine va_MetW (cc := cL_due) (maxL := 3) (ret := (some .int)) (hh := [(0, 5, 6, 13)]) (by decide) rfl ?_
  intro p e s m args below meth c s₁ BB hml hv
  obtain ⟨rfl, ⟨hsz, hP, hK, hD0⟩, hX, hZ⟩ := hv
  have hx := BB.exec
  have hb := BB.bytes
  have hr := BB.returns
  have hts := atoms_spec (ws := wsL_due) BB.pre
  have hown : s.vm.findClass RL = some m.cls := findClass_of_methodNamed BB.named
  have hlocks := BB.notSynchronized
  clear BB
  subst hsz
  have hD := hD0.self (sz := s.heap.size)
  clear hD0
  generalize hAe : va_A (wCA a cI cZ B R E (td)) s.heap.size = A at hD hZ ⊢
  have hA : ∀ q : Nat, s.heap.size ≤ q → A q := fun q h => by rw [← hAe]; exact Or.inr h
  clear hAe
  have hl := lv_entry ([.ref (a 0), .int (nI (i))]) (n := 3) (Nat.le_of_ble_eq_true rfl)
  rw [lg_entry_eq]
  generalize (lg_sl ([.ref (a 0), .int (nI (i))]) ++ List.replicate (3 - (lg_sl ([.ref (a 0), .int (nI (i))])).length) Slot.unset).toArray = ls at hl ⊢
  have hl : lv_has ls 3 [(0, .ref (a 0)), (1, .int (nI (i)))] := hl
  generalize hHe : s.heap = H at hP ⊢
  have hS : va_S A s.heap H [] := by rw [← hHe]; exact va_S.rf
  clear hHe
  generalize hLe : ([] : List Loc) = locs at hS ⊢
  clear hLe
  refine lv_aload_n hx hb dL_due_0 rfl (lv_at hl 0 rfl) ?_
  refine lv_iload_n hx hb dL_due_1 rfl (lv_at hl 1 rfl) ?_
  refine zcVi (ci := 3) (q0 := 0) (wf := (fun (u : Unit) => (wCA a cI cZ B R E (td)))) (List.range 26) ⟨hx, hb, hml, hown, hts⟩ (zwAll 26 (by decide) rfl hP hD hS hA) hK (c_X3_due l D cI cZ a H.size (B) (R) (E) (td) (n) (i) (by first | assumption | omega) (by first | assumption | omega) (by first | assumption | omega)) (cwV 1 hts gL_due_X3_due rfl rfl rfl (by decide +kernel) ⟨Nat.le_of_ble_eq_true rfl, Nat.le_of_ble_eq_true rfl⟩) rfl rfl (by decide) (fun _ => rfl) rfl hl.1 rfl (Nat.le_of_ble_eq_true rfl) dL_due_2 ⟨Nat.le_of_ble_eq_true rfl, Nat.le_of_ble_eq_true rfl⟩ (fun r2 u H locs hw hP hD hS => ?_)
  subst hw
  exact W.iret (v := dueN (B) (i) (td)) hx hb hr (fun t ht hW => ⟨⟨dueN (B) (i) (td), (), rfl, rfl, by rw [ht]; exact hP, va_K.moved hW.alike hK, hD⟩, hS.F ht⟩) hS.2.2 dL_due_5
set_option maxHeartbeats 4000000 in
set_option maxRecDepth 100000 in
theorem c_L_due_k (l : Launch) (hfl : l.stackTraces = false) (D : va_G) (cI cZ : ClassId) (a : Nat → Nat) (sz : Nat) (B : Nat → Nat → Int32) (R : Nat → Nat → Int32) (E : Nat → Nat → Int32) (td : Int32) (vx : Int32) (h : vx < 0 ∨ ¬ vx < B 11 0) : Met l yL_due wsL_due ({ frames := 8, cells := 1, slots := 6, locals := 132 } : Room) (va_Pc [.ref (a 0), .int (vx)] (PreX D cI cZ (wCA a cI cZ B R E (td)) sz)) (va_Qi (fun (r : Int32) (_ : Unit) => r = (-2000000001)) (fun (_ : Unit) => PostW D cI cZ (va_A (wCA a cI cZ B R E (td)) sz) (wCA a cI cZ B R E (td))) (va_A (wCA a cI cZ B R E (td)) sz)) 1 6 (va_A (wCA a cI cZ B R E (td)) sz) := by
  refine va_MetW (cc := cL_due) (maxL := 3) (ret := (some .int)) (hh := [(0, 5, 6, 13)]) (by decide) rfl ?_
  intro p e s m args below meth c s₁ BB hml hv
  obtain ⟨rfl, ⟨hsz, hP, hK, hD0⟩, hX, hZ⟩ := hv
  have hx := BB.exec
  have hb := BB.bytes
  have hr := BB.returns
  have hts := atoms_spec (ws := wsL_due) BB.pre
  have hown : s.vm.findClass RL = some m.cls := findClass_of_methodNamed BB.named
  have hlocks := BB.notSynchronized
  have htab : c.exceptionTable.toList = tableOf [(0, 5, 6, 13)] := vx_table (x := yL_due) BB (hts (.codeWith yL_due cL_due 3 (some .int) [(0, 5, 6, 13)]) List.mem_cons_self)
  clear BB
  subst hsz
  have hD := hD0.self (sz := s.heap.size)
  clear hD0
  generalize hAe : va_A (wCA a cI cZ B R E (td)) s.heap.size = A at hD hZ ⊢
  have hA : ∀ q : Nat, s.heap.size ≤ q → A q := fun q h => by rw [← hAe]; exact Or.inr h
  clear hAe
  have hl := lv_entry ([.ref (a 0), .int (vx)]) (n := 3) (Nat.le_of_ble_eq_true rfl)
  rw [lg_entry_eq]
  generalize (lg_sl ([.ref (a 0), .int (vx)]) ++ List.replicate (3 - (lg_sl ([.ref (a 0), .int (vx)])).length) Slot.unset).toArray = ls at hl ⊢
  have hl : lv_has ls 3 [(0, .ref (a 0)), (1, .int (vx))] := hl
  generalize hHe : s.heap = H at hP ⊢
  have hS : va_S A s.heap H [] := by rw [← hHe]; exact va_S.rf
  clear hHe
  generalize hLe : ([] : List Loc) = locs at hS ⊢
  clear hLe
  refine lv_aload_n hx hb dL_due_0 rfl (lv_at hl 0 rfl) ?_
  refine lv_iload_n hx hb dL_due_1 rfl (lv_at hl 1 rfl) ?_
  refine zxV (ci := 3) (q0 := 0) kCA ⟨hx, hb, hml, hown, hts⟩ (zwCA hP hD hS hA) hK hX hZ (x_X3_due l hfl D cI cZ a H.size (B) (R) (E) (td) (vx) (h)) (cwV 1 hts gL_due_X3_due rfl rfl rfl (by decide +kernel) ⟨Nat.le_of_ble_eq_true rfl, Nat.le_of_ble_eq_true rfl⟩) rfl rfl (by decide) rfl rfl hl.1 rfl (Nat.le_of_ble_eq_true rfl) dL_due_2 ⟨Nat.le_of_ble_eq_true rfl, Nat.le_of_ble_eq_true rfl⟩ (fun ce q9 H locs hP hD hS hce hcv hcl => ?_)
  refine vx_catch (E := eI) (name := eI) hown [] ⟨0, 5, 6, 13⟩ [] htab (fun z hz => nomatch hz) rfl (by decide) (hts (.classLink RL 13 "java/lang/IndexOutOfBoundsException") (by decide +kernel)) (va_Nw.use rfl (hX.1.2.1)) hce hcv hcl ?_
  refine lv_astore_n (lv' := [(2, .ref (q9)), (0, .ref (a 0)), (1, .int (vx))]) hx hb dL_due_6 rfl hl (by decide) rfl (fun ls hl => ?_)
  refine lv_ldc (v := -2000000001) hx hb hown (hts (.constant RL 15 (-2000000001)) (by decide +kernel)) dL_due_7 ?_
  exact W.iret (v := (-2000000001)) hx hb hr (fun t ht hW => ⟨⟨(-2000000001), (), rfl, rfl, by rw [ht]; exact hP, va_K.moved hW.alike hK, hD⟩, hS.F ht⟩) hS.2.2 dL_due_9
set_option maxHeartbeats 4000000 in
set_option maxRecDepth 100000 in
theorem c_L_paid_0 (l : Launch) (D : va_G) (cI cZ : ClassId) (a : Nat → Nat) (sz : Nat) (B : Nat → Nat → Int32) (R : Nat → Nat → Int32) (E : Nat → Nat → Int32) (td : Int32) (n : Nat) (i : Nat) (hB : B 11 0 = nI n) (hn : n ≤ 40) (hbn : i < n) : Met l yL_paid wsL_paid ({ frames := 2, cells := 0, slots := 0, locals := 42 } : Room) (va_Pc [.ref (a 0), .int (nI (i))] (PreX D cI cZ (wCA a cI cZ B R E (td)) sz)) (va_Qi (fun (r : Int32) (_ : Unit) => r = B 5 i) (fun (_ : Unit) => PostW D cI cZ (va_A (wCA a cI cZ B R E (td)) sz) (wCA a cI cZ B R E (td))) (va_A (wCA a cI cZ B R E (td)) sz)) 0 0 (va_A (wCA a cI cZ B R E (td)) sz) := by
  refine va_MetW (cc := cL_paid) (maxL := 3) (ret := (some .int)) (hh := [(0, 5, 6, 13)]) (by decide) rfl ?_
  intro p e s m args below meth c s₁ BB hml hv
  obtain ⟨rfl, ⟨hsz, hP, hK, hD0⟩, hX, hZ⟩ := hv
  have hx := BB.exec
  have hb := BB.bytes
  have hr := BB.returns
  have hts := atoms_spec (ws := wsL_paid) BB.pre
  have hown : s.vm.findClass RL = some m.cls := findClass_of_methodNamed BB.named
  have hlocks := BB.notSynchronized
  clear BB
  subst hsz
  have hD := hD0.self (sz := s.heap.size)
  clear hD0
  generalize hAe : va_A (wCA a cI cZ B R E (td)) s.heap.size = A at hD hZ ⊢
  have hA : ∀ q : Nat, s.heap.size ≤ q → A q := fun q h => by rw [← hAe]; exact Or.inr h
  clear hAe
  have hl := lv_entry ([.ref (a 0), .int (nI (i))]) (n := 3) (Nat.le_of_ble_eq_true rfl)
  rw [lg_entry_eq]
  generalize (lg_sl ([.ref (a 0), .int (nI (i))]) ++ List.replicate (3 - (lg_sl ([.ref (a 0), .int (nI (i))])).length) Slot.unset).toArray = ls at hl ⊢
  have hl : lv_has ls 3 [(0, .ref (a 0)), (1, .int (nI (i)))] := hl
  generalize hHe : s.heap = H at hP ⊢
  have hS : va_S A s.heap H [] := by rw [← hHe]; exact va_S.rf
  clear hHe
  generalize hLe : ([] : List Loc) = locs at hS ⊢
  clear hLe
  refine lv_aload_n hx hb dL_paid_0 rfl (lv_at hl 0 rfl) ?_
  refine lv_iload_n hx hb dL_paid_1 rfl (lv_at hl 1 rfl) ?_
  refine zcVi (ci := 3) (q0 := 0) (wf := (fun (u : Unit) => (wCA a cI cZ B R E (td)))) (List.range 26) ⟨hx, hb, hml, hown, hts⟩ (zwAll 26 (by decide) rfl hP hD hS hA) hK (c_X3_paid l D cI cZ a H.size (B) (R) (E) (td) (n) (i) (by first | assumption | omega) (by first | assumption | omega) (by first | assumption | omega)) (cwV 1 hts gL_paid_X3_paid rfl rfl rfl (by decide +kernel) ⟨Nat.le_of_ble_eq_true rfl, Nat.le_of_ble_eq_true rfl⟩) rfl rfl (by decide) (fun _ => rfl) rfl hl.1 rfl (Nat.le_of_ble_eq_true rfl) dL_paid_2 ⟨Nat.le_of_ble_eq_true rfl, Nat.le_of_ble_eq_true rfl⟩ (fun r2 u H locs hw hP hD hS => ?_)
  subst hw
  exact W.iret (v := (B) 5 (i)) hx hb hr (fun t ht hW => ⟨⟨(B) 5 (i), (), rfl, rfl, by rw [ht]; exact hP, va_K.moved hW.alike hK, hD⟩, hS.F ht⟩) hS.2.2 dL_paid_5
set_option maxHeartbeats 4000000 in
set_option maxRecDepth 100000 in
theorem c_L_paid_k (l : Launch) (hfl : l.stackTraces = false) (D : va_G) (cI cZ : ClassId) (a : Nat → Nat) (sz : Nat) (B : Nat → Nat → Int32) (R : Nat → Nat → Int32) (E : Nat → Nat → Int32) (td : Int32) (vx : Int32) (h : vx < 0 ∨ ¬ vx < B 11 0) : Met l yL_paid wsL_paid ({ frames := 8, cells := 1, slots := 6, locals := 132 } : Room) (va_Pc [.ref (a 0), .int (vx)] (PreX D cI cZ (wCA a cI cZ B R E (td)) sz)) (va_Qi (fun (r : Int32) (_ : Unit) => r = (-2000000001)) (fun (_ : Unit) => PostW D cI cZ (va_A (wCA a cI cZ B R E (td)) sz) (wCA a cI cZ B R E (td))) (va_A (wCA a cI cZ B R E (td)) sz)) 1 6 (va_A (wCA a cI cZ B R E (td)) sz) := by
  refine va_MetW (cc := cL_paid) (maxL := 3) (ret := (some .int)) (hh := [(0, 5, 6, 13)]) (by decide) rfl ?_
  intro p e s m args below meth c s₁ BB hml hv
  obtain ⟨rfl, ⟨hsz, hP, hK, hD0⟩, hX, hZ⟩ := hv
  have hx := BB.exec
  have hb := BB.bytes
  have hr := BB.returns
  have hts := atoms_spec (ws := wsL_paid) BB.pre
  have hown : s.vm.findClass RL = some m.cls := findClass_of_methodNamed BB.named
  have hlocks := BB.notSynchronized
  have htab : c.exceptionTable.toList = tableOf [(0, 5, 6, 13)] := vx_table (x := yL_paid) BB (hts (.codeWith yL_paid cL_paid 3 (some .int) [(0, 5, 6, 13)]) List.mem_cons_self)
  clear BB
  subst hsz
  have hD := hD0.self (sz := s.heap.size)
  clear hD0
  generalize hAe : va_A (wCA a cI cZ B R E (td)) s.heap.size = A at hD hZ ⊢
  have hA : ∀ q : Nat, s.heap.size ≤ q → A q := fun q h => by rw [← hAe]; exact Or.inr h
  clear hAe
  have hl := lv_entry ([.ref (a 0), .int (vx)]) (n := 3) (Nat.le_of_ble_eq_true rfl)
  rw [lg_entry_eq]
  generalize (lg_sl ([.ref (a 0), .int (vx)]) ++ List.replicate (3 - (lg_sl ([.ref (a 0), .int (vx)])).length) Slot.unset).toArray = ls at hl ⊢
  have hl : lv_has ls 3 [(0, .ref (a 0)), (1, .int (vx))] := hl
  generalize hHe : s.heap = H at hP ⊢
  have hS : va_S A s.heap H [] := by rw [← hHe]; exact va_S.rf
  clear hHe
  generalize hLe : ([] : List Loc) = locs at hS ⊢
  clear hLe
  refine lv_aload_n hx hb dL_paid_0 rfl (lv_at hl 0 rfl) ?_
  refine lv_iload_n hx hb dL_paid_1 rfl (lv_at hl 1 rfl) ?_
  refine zxV (ci := 3) (q0 := 0) kCA ⟨hx, hb, hml, hown, hts⟩ (zwCA hP hD hS hA) hK hX hZ (x_X3_paid l hfl D cI cZ a H.size (B) (R) (E) (td) (vx) (h)) (cwV 1 hts gL_paid_X3_paid rfl rfl rfl (by decide +kernel) ⟨Nat.le_of_ble_eq_true rfl, Nat.le_of_ble_eq_true rfl⟩) rfl rfl (by decide) rfl rfl hl.1 rfl (Nat.le_of_ble_eq_true rfl) dL_paid_2 ⟨Nat.le_of_ble_eq_true rfl, Nat.le_of_ble_eq_true rfl⟩ (fun ce q9 H locs hP hD hS hce hcv hcl => ?_)
  refine vx_catch (E := eI) (name := eI) hown [] ⟨0, 5, 6, 13⟩ [] htab (fun z hz => nomatch hz) rfl (by decide) (hts (.classLink RL 13 "java/lang/IndexOutOfBoundsException") (by decide +kernel)) (va_Nw.use rfl (hX.1.2.1)) hce hcv hcl ?_
  refine lv_astore_n (lv' := [(2, .ref (q9)), (0, .ref (a 0)), (1, .int (vx))]) hx hb dL_paid_6 rfl hl (by decide) rfl (fun ls hl => ?_)
  refine lv_ldc (v := -2000000001) hx hb hown (hts (.constant RL 15 (-2000000001)) (by decide +kernel)) dL_paid_7 ?_
  exact W.iret (v := (-2000000001)) hx hb hr (fun t ht hW => ⟨⟨(-2000000001), (), rfl, rfl, by rw [ht]; exact hP, va_K.moved hW.alike hK, hD⟩, hS.F ht⟩) hS.2.2 dL_paid_9
set_option maxHeartbeats 4000000 in
set_option maxRecDepth 100000 in
theorem c_L_taken_0 (l : Launch) (D : va_G) (cI cZ : ClassId) (a : Nat → Nat) (sz : Nat) (B : Nat → Nat → Int32) (R : Nat → Nat → Int32) (E : Nat → Nat → Int32) (td : Int32) (n : Nat) (i : Nat) (hB : B 11 0 = nI n) (hn : n ≤ 40) (hbn : i < n) : Met l yL_taken wsL_taken ({ frames := 2, cells := 0, slots := 0, locals := 42 } : Room) (va_Pc [.ref (a 0), .int (nI (i))] (PreX D cI cZ (wCA a cI cZ B R E (td)) sz)) (va_Qi (fun (r : Int32) (_ : Unit) => r = B 6 i) (fun (_ : Unit) => PostW D cI cZ (va_A (wCA a cI cZ B R E (td)) sz) (wCA a cI cZ B R E (td))) (va_A (wCA a cI cZ B R E (td)) sz)) 0 0 (va_A (wCA a cI cZ B R E (td)) sz) := by
  refine va_MetW (cc := cL_taken) (maxL := 3) (ret := (some .int)) (hh := [(0, 5, 6, 13)]) (by decide) rfl ?_
  intro p e s m args below meth c s₁ BB hml hv
  obtain ⟨rfl, ⟨hsz, hP, hK, hD0⟩, hX, hZ⟩ := hv
  have hx := BB.exec
  have hb := BB.bytes
  have hr := BB.returns
  have hts := atoms_spec (ws := wsL_taken) BB.pre
  have hown : s.vm.findClass RL = some m.cls := findClass_of_methodNamed BB.named
  have hlocks := BB.notSynchronized
  clear BB
  subst hsz
  have hD := hD0.self (sz := s.heap.size)
  clear hD0
  generalize hAe : va_A (wCA a cI cZ B R E (td)) s.heap.size = A at hD hZ ⊢
  have hA : ∀ q : Nat, s.heap.size ≤ q → A q := fun q h => by rw [← hAe]; exact Or.inr h
  clear hAe
  have hl := lv_entry ([.ref (a 0), .int (nI (i))]) (n := 3) (Nat.le_of_ble_eq_true rfl)
  rw [lg_entry_eq]
  generalize (lg_sl ([.ref (a 0), .int (nI (i))]) ++ List.replicate (3 - (lg_sl ([.ref (a 0), .int (nI (i))])).length) Slot.unset).toArray = ls at hl ⊢
  have hl : lv_has ls 3 [(0, .ref (a 0)), (1, .int (nI (i)))] := hl
  generalize hHe : s.heap = H at hP ⊢
  have hS : va_S A s.heap H [] := by rw [← hHe]; exact va_S.rf
  clear hHe
  generalize hLe : ([] : List Loc) = locs at hS ⊢
  clear hLe
  refine lv_aload_n hx hb dL_taken_0 rfl (lv_at hl 0 rfl) ?_
  refine lv_iload_n hx hb dL_taken_1 rfl (lv_at hl 1 rfl) ?_
  refine zcVi (ci := 3) (q0 := 0) (wf := (fun (u : Unit) => (wCA a cI cZ B R E (td)))) (List.range 26) ⟨hx, hb, hml, hown, hts⟩ (zwAll 26 (by decide) rfl hP hD hS hA) hK (c_X3_taken l D cI cZ a H.size (B) (R) (E) (td) (n) (i) (by first | assumption | omega) (by first | assumption | omega) (by first | assumption | omega)) (cwV 1 hts gL_taken_X3_taken rfl rfl rfl (by decide +kernel) ⟨Nat.le_of_ble_eq_true rfl, Nat.le_of_ble_eq_true rfl⟩) rfl rfl (by decide) (fun _ => rfl) rfl hl.1 rfl (Nat.le_of_ble_eq_true rfl) dL_taken_2 ⟨Nat.le_of_ble_eq_true rfl, Nat.le_of_ble_eq_true rfl⟩ (fun r2 u H locs hw hP hD hS => ?_)
  subst hw
  exact W.iret (v := (B) 6 (i)) hx hb hr (fun t ht hW => ⟨⟨(B) 6 (i), (), rfl, rfl, by rw [ht]; exact hP, va_K.moved hW.alike hK, hD⟩, hS.F ht⟩) hS.2.2 dL_taken_5
set_option maxHeartbeats 4000000 in
set_option maxRecDepth 100000 in
theorem c_L_taken_k (l : Launch) (hfl : l.stackTraces = false) (D : va_G) (cI cZ : ClassId) (a : Nat → Nat) (sz : Nat) (B : Nat → Nat → Int32) (R : Nat → Nat → Int32) (E : Nat → Nat → Int32) (td : Int32) (vx : Int32) (h : vx < 0 ∨ ¬ vx < B 11 0) : Met l yL_taken wsL_taken ({ frames := 8, cells := 1, slots := 6, locals := 132 } : Room) (va_Pc [.ref (a 0), .int (vx)] (PreX D cI cZ (wCA a cI cZ B R E (td)) sz)) (va_Qi (fun (r : Int32) (_ : Unit) => r = (-2000000001)) (fun (_ : Unit) => PostW D cI cZ (va_A (wCA a cI cZ B R E (td)) sz) (wCA a cI cZ B R E (td))) (va_A (wCA a cI cZ B R E (td)) sz)) 1 6 (va_A (wCA a cI cZ B R E (td)) sz) := by
  refine va_MetW (cc := cL_taken) (maxL := 3) (ret := (some .int)) (hh := [(0, 5, 6, 13)]) (by decide) rfl ?_
  intro p e s m args below meth c s₁ BB hml hv
  obtain ⟨rfl, ⟨hsz, hP, hK, hD0⟩, hX, hZ⟩ := hv
  have hx := BB.exec
  have hb := BB.bytes
  have hr := BB.returns
  have hts := atoms_spec (ws := wsL_taken) BB.pre
  have hown : s.vm.findClass RL = some m.cls := findClass_of_methodNamed BB.named
  have hlocks := BB.notSynchronized
  have htab : c.exceptionTable.toList = tableOf [(0, 5, 6, 13)] := vx_table (x := yL_taken) BB (hts (.codeWith yL_taken cL_taken 3 (some .int) [(0, 5, 6, 13)]) List.mem_cons_self)
  clear BB
  subst hsz
  have hD := hD0.self (sz := s.heap.size)
  clear hD0
  generalize hAe : va_A (wCA a cI cZ B R E (td)) s.heap.size = A at hD hZ ⊢
  have hA : ∀ q : Nat, s.heap.size ≤ q → A q := fun q h => by rw [← hAe]; exact Or.inr h
  clear hAe
  have hl := lv_entry ([.ref (a 0), .int (vx)]) (n := 3) (Nat.le_of_ble_eq_true rfl)
  rw [lg_entry_eq]
  generalize (lg_sl ([.ref (a 0), .int (vx)]) ++ List.replicate (3 - (lg_sl ([.ref (a 0), .int (vx)])).length) Slot.unset).toArray = ls at hl ⊢
  have hl : lv_has ls 3 [(0, .ref (a 0)), (1, .int (vx))] := hl
  generalize hHe : s.heap = H at hP ⊢
  have hS : va_S A s.heap H [] := by rw [← hHe]; exact va_S.rf
  clear hHe
  generalize hLe : ([] : List Loc) = locs at hS ⊢
  clear hLe
  refine lv_aload_n hx hb dL_taken_0 rfl (lv_at hl 0 rfl) ?_
  refine lv_iload_n hx hb dL_taken_1 rfl (lv_at hl 1 rfl) ?_
  refine zxV (ci := 3) (q0 := 0) kCA ⟨hx, hb, hml, hown, hts⟩ (zwCA hP hD hS hA) hK hX hZ (x_X3_taken l hfl D cI cZ a H.size (B) (R) (E) (td) (vx) (h)) (cwV 1 hts gL_taken_X3_taken rfl rfl rfl (by decide +kernel) ⟨Nat.le_of_ble_eq_true rfl, Nat.le_of_ble_eq_true rfl⟩) rfl rfl (by decide) rfl rfl hl.1 rfl (Nat.le_of_ble_eq_true rfl) dL_taken_2 ⟨Nat.le_of_ble_eq_true rfl, Nat.le_of_ble_eq_true rfl⟩ (fun ce q9 H locs hP hD hS hce hcv hcl => ?_)
  refine vx_catch (E := eI) (name := eI) hown [] ⟨0, 5, 6, 13⟩ [] htab (fun z hz => nomatch hz) rfl (by decide) (hts (.classLink RL 13 "java/lang/IndexOutOfBoundsException") (by decide +kernel)) (va_Nw.use rfl (hX.1.2.1)) hce hcv hcl ?_
  refine lv_astore_n (lv' := [(2, .ref (q9)), (0, .ref (a 0)), (1, .int (vx))]) hx hb dL_taken_6 rfl hl (by decide) rfl (fun ls hl => ?_)
  refine lv_ldc (v := -2000000001) hx hb hown (hts (.constant RL 15 (-2000000001)) (by decide +kernel)) dL_taken_7 ?_
  exact W.iret (v := (-2000000001)) hx hb hr (fun t ht hW => ⟨⟨(-2000000001), (), rfl, rfl, by rw [ht]; exact hP, va_K.moved hW.alike hK, hD⟩, hS.F ht⟩) hS.2.2 dL_taken_9
set_option maxHeartbeats 4000000 in
set_option maxRecDepth 100000 in
theorem c_L_disputed_0 (l : Launch) (D : va_G) (cI cZ : ClassId) (a : Nat → Nat) (sz : Nat) (B : Nat → Nat → Int32) (R : Nat → Nat → Int32) (E : Nat → Nat → Int32) (td : Int32) (n : Nat) (i : Nat) (hB : B 11 0 = nI n) (hn : n ≤ 40) (hbn : i < n) : Met l yL_disputed wsL_disputed ({ frames := 2, cells := 0, slots := 0, locals := 42 } : Room) (va_Pc [.ref (a 0), .int (nI (i))] (PreX D cI cZ (wCA a cI cZ B R E (td)) sz)) (va_Qi (fun (r : Int32) (_ : Unit) => r = B 8 i) (fun (_ : Unit) => PostW D cI cZ (va_A (wCA a cI cZ B R E (td)) sz) (wCA a cI cZ B R E (td))) (va_A (wCA a cI cZ B R E (td)) sz)) 0 0 (va_A (wCA a cI cZ B R E (td)) sz) := by
  refine va_MetW (cc := cL_disputed) (maxL := 3) (ret := (some .int)) (hh := [(0, 5, 6, 13)]) (by decide) rfl ?_
  intro p e s m args below meth c s₁ BB hml hv
  obtain ⟨rfl, ⟨hsz, hP, hK, hD0⟩, hX, hZ⟩ := hv
  have hx := BB.exec
  have hb := BB.bytes
  have hr := BB.returns
  have hts := atoms_spec (ws := wsL_disputed) BB.pre
  have hown : s.vm.findClass RL = some m.cls := findClass_of_methodNamed BB.named
  have hlocks := BB.notSynchronized
  clear BB
  subst hsz
  have hD := hD0.self (sz := s.heap.size)
  clear hD0
  generalize hAe : va_A (wCA a cI cZ B R E (td)) s.heap.size = A at hD hZ ⊢
  have hA : ∀ q : Nat, s.heap.size ≤ q → A q := fun q h => by rw [← hAe]; exact Or.inr h
  clear hAe
  have hl := lv_entry ([.ref (a 0), .int (nI (i))]) (n := 3) (Nat.le_of_ble_eq_true rfl)
  rw [lg_entry_eq]
  generalize (lg_sl ([.ref (a 0), .int (nI (i))]) ++ List.replicate (3 - (lg_sl ([.ref (a 0), .int (nI (i))])).length) Slot.unset).toArray = ls at hl ⊢
  have hl : lv_has ls 3 [(0, .ref (a 0)), (1, .int (nI (i)))] := hl
  generalize hHe : s.heap = H at hP ⊢
  have hS : va_S A s.heap H [] := by rw [← hHe]; exact va_S.rf
  clear hHe
  generalize hLe : ([] : List Loc) = locs at hS ⊢
  clear hLe
  refine lv_aload_n hx hb dL_disputed_0 rfl (lv_at hl 0 rfl) ?_
  refine lv_iload_n hx hb dL_disputed_1 rfl (lv_at hl 1 rfl) ?_
  refine zcVi (ci := 3) (q0 := 0) (wf := (fun (u : Unit) => (wCA a cI cZ B R E (td)))) (List.range 26) ⟨hx, hb, hml, hown, hts⟩ (zwAll 26 (by decide) rfl hP hD hS hA) hK (c_X3_disputed l D cI cZ a H.size (B) (R) (E) (td) (n) (i) (by first | assumption | omega) (by first | assumption | omega) (by first | assumption | omega)) (cwV 1 hts gL_disputed_X3_disputed rfl rfl rfl (by decide +kernel) ⟨Nat.le_of_ble_eq_true rfl, Nat.le_of_ble_eq_true rfl⟩) rfl rfl (by decide) (fun _ => rfl) rfl hl.1 rfl (Nat.le_of_ble_eq_true rfl) dL_disputed_2 ⟨Nat.le_of_ble_eq_true rfl, Nat.le_of_ble_eq_true rfl⟩ (fun r2 u H locs hw hP hD hS => ?_)
  subst hw
  exact W.iret (v := (B) 8 (i)) hx hb hr (fun t ht hW => ⟨⟨(B) 8 (i), (), rfl, rfl, by rw [ht]; exact hP, va_K.moved hW.alike hK, hD⟩, hS.F ht⟩) hS.2.2 dL_disputed_5
set_option maxHeartbeats 4000000 in
set_option maxRecDepth 100000 in
theorem c_L_disputed_k (l : Launch) (hfl : l.stackTraces = false) (D : va_G) (cI cZ : ClassId) (a : Nat → Nat) (sz : Nat) (B : Nat → Nat → Int32) (R : Nat → Nat → Int32) (E : Nat → Nat → Int32) (td : Int32) (vx : Int32) (h : vx < 0 ∨ ¬ vx < B 11 0) : Met l yL_disputed wsL_disputed ({ frames := 8, cells := 1, slots := 6, locals := 132 } : Room) (va_Pc [.ref (a 0), .int (vx)] (PreX D cI cZ (wCA a cI cZ B R E (td)) sz)) (va_Qi (fun (r : Int32) (_ : Unit) => r = (-2000000001)) (fun (_ : Unit) => PostW D cI cZ (va_A (wCA a cI cZ B R E (td)) sz) (wCA a cI cZ B R E (td))) (va_A (wCA a cI cZ B R E (td)) sz)) 1 6 (va_A (wCA a cI cZ B R E (td)) sz) := by
  refine va_MetW (cc := cL_disputed) (maxL := 3) (ret := (some .int)) (hh := [(0, 5, 6, 13)]) (by decide) rfl ?_
  intro p e s m args below meth c s₁ BB hml hv
  obtain ⟨rfl, ⟨hsz, hP, hK, hD0⟩, hX, hZ⟩ := hv
  have hx := BB.exec
  have hb := BB.bytes
  have hr := BB.returns
  have hts := atoms_spec (ws := wsL_disputed) BB.pre
  have hown : s.vm.findClass RL = some m.cls := findClass_of_methodNamed BB.named
  have hlocks := BB.notSynchronized
  have htab : c.exceptionTable.toList = tableOf [(0, 5, 6, 13)] := vx_table (x := yL_disputed) BB (hts (.codeWith yL_disputed cL_disputed 3 (some .int) [(0, 5, 6, 13)]) List.mem_cons_self)
  clear BB
  subst hsz
  have hD := hD0.self (sz := s.heap.size)
  clear hD0
  generalize hAe : va_A (wCA a cI cZ B R E (td)) s.heap.size = A at hD hZ ⊢
  have hA : ∀ q : Nat, s.heap.size ≤ q → A q := fun q h => by rw [← hAe]; exact Or.inr h
  clear hAe
  have hl := lv_entry ([.ref (a 0), .int (vx)]) (n := 3) (Nat.le_of_ble_eq_true rfl)
  rw [lg_entry_eq]
  generalize (lg_sl ([.ref (a 0), .int (vx)]) ++ List.replicate (3 - (lg_sl ([.ref (a 0), .int (vx)])).length) Slot.unset).toArray = ls at hl ⊢
  have hl : lv_has ls 3 [(0, .ref (a 0)), (1, .int (vx))] := hl
  generalize hHe : s.heap = H at hP ⊢
  have hS : va_S A s.heap H [] := by rw [← hHe]; exact va_S.rf
  clear hHe
  generalize hLe : ([] : List Loc) = locs at hS ⊢
  clear hLe
  refine lv_aload_n hx hb dL_disputed_0 rfl (lv_at hl 0 rfl) ?_
  refine lv_iload_n hx hb dL_disputed_1 rfl (lv_at hl 1 rfl) ?_
  refine zxV (ci := 3) (q0 := 0) kCA ⟨hx, hb, hml, hown, hts⟩ (zwCA hP hD hS hA) hK hX hZ (x_X3_disputed l hfl D cI cZ a H.size (B) (R) (E) (td) (vx) (h)) (cwV 1 hts gL_disputed_X3_disputed rfl rfl rfl (by decide +kernel) ⟨Nat.le_of_ble_eq_true rfl, Nat.le_of_ble_eq_true rfl⟩) rfl rfl (by decide) rfl rfl hl.1 rfl (Nat.le_of_ble_eq_true rfl) dL_disputed_2 ⟨Nat.le_of_ble_eq_true rfl, Nat.le_of_ble_eq_true rfl⟩ (fun ce q9 H locs hP hD hS hce hcv hcl => ?_)
  refine vx_catch (E := eI) (name := eI) hown [] ⟨0, 5, 6, 13⟩ [] htab (fun z hz => nomatch hz) rfl (by decide) (hts (.classLink RL 13 "java/lang/IndexOutOfBoundsException") (by decide +kernel)) (va_Nw.use rfl (hX.1.2.1)) hce hcv hcl ?_
  refine lv_astore_n (lv' := [(2, .ref (q9)), (0, .ref (a 0)), (1, .int (vx))]) hx hb dL_disputed_6 rfl hl (by decide) rfl (fun ls hl => ?_)
  refine lv_ldc (v := -2000000001) hx hb hown (hts (.constant RL 15 (-2000000001)) (by decide +kernel)) dL_disputed_7 ?_
  exact W.iret (v := (-2000000001)) hx hb hr (fun t ht hW => ⟨⟨(-2000000001), (), rfl, rfl, by rw [ht]; exact hP, va_K.moved hW.alike hK, hD⟩, hS.F ht⟩) hS.2.2 dL_disputed_9
set_option maxHeartbeats 4000000 in
set_option maxRecDepth 100000 in
theorem c_L_written_0 (l : Launch) (D : va_G) (cI cZ : ClassId) (a : Nat → Nat) (sz : Nat) (B : Nat → Nat → Int32) (R : Nat → Nat → Int32) (E : Nat → Nat → Int32) (td : Int32) (n : Nat) (i : Nat) (hB : B 11 0 = nI n) (hn : n ≤ 40) (hbn : i < n) : Met l yL_written wsL_written ({ frames := 2, cells := 0, slots := 0, locals := 42 } : Room) (va_Pc [.ref (a 0), .int (nI (i))] (PreX D cI cZ (wCA a cI cZ B R E (td)) sz)) (va_Qi (fun (r : Int32) (_ : Unit) => r = B 10 i) (fun (_ : Unit) => PostW D cI cZ (va_A (wCA a cI cZ B R E (td)) sz) (wCA a cI cZ B R E (td))) (va_A (wCA a cI cZ B R E (td)) sz)) 0 0 (va_A (wCA a cI cZ B R E (td)) sz) := by
  refine va_MetW (cc := cL_written) (maxL := 3) (ret := (some .int)) (hh := [(0, 5, 6, 13)]) (by decide) rfl ?_
  intro p e s m args below meth c s₁ BB hml hv
  obtain ⟨rfl, ⟨hsz, hP, hK, hD0⟩, hX, hZ⟩ := hv
  have hx := BB.exec
  have hb := BB.bytes
  have hr := BB.returns
  have hts := atoms_spec (ws := wsL_written) BB.pre
  have hown : s.vm.findClass RL = some m.cls := findClass_of_methodNamed BB.named
  have hlocks := BB.notSynchronized
  clear BB
  subst hsz
  have hD := hD0.self (sz := s.heap.size)
  clear hD0
  generalize hAe : va_A (wCA a cI cZ B R E (td)) s.heap.size = A at hD hZ ⊢
  have hA : ∀ q : Nat, s.heap.size ≤ q → A q := fun q h => by rw [← hAe]; exact Or.inr h
  clear hAe
  have hl := lv_entry ([.ref (a 0), .int (nI (i))]) (n := 3) (Nat.le_of_ble_eq_true rfl)
  rw [lg_entry_eq]
  generalize (lg_sl ([.ref (a 0), .int (nI (i))]) ++ List.replicate (3 - (lg_sl ([.ref (a 0), .int (nI (i))])).length) Slot.unset).toArray = ls at hl ⊢
  have hl : lv_has ls 3 [(0, .ref (a 0)), (1, .int (nI (i)))] := hl
  generalize hHe : s.heap = H at hP ⊢
  have hS : va_S A s.heap H [] := by rw [← hHe]; exact va_S.rf
  clear hHe
  generalize hLe : ([] : List Loc) = locs at hS ⊢
  clear hLe
  refine lv_aload_n hx hb dL_written_0 rfl (lv_at hl 0 rfl) ?_
  refine lv_iload_n hx hb dL_written_1 rfl (lv_at hl 1 rfl) ?_
  refine zcVi (ci := 3) (q0 := 0) (wf := (fun (u : Unit) => (wCA a cI cZ B R E (td)))) (List.range 26) ⟨hx, hb, hml, hown, hts⟩ (zwAll 26 (by decide) rfl hP hD hS hA) hK (c_X3_writtenOff l D cI cZ a H.size (B) (R) (E) (td) (n) (i) (by first | assumption | omega) (by first | assumption | omega) (by first | assumption | omega)) (cwV 1 hts gL_written_X3_writtenOff rfl rfl rfl (by decide +kernel) ⟨Nat.le_of_ble_eq_true rfl, Nat.le_of_ble_eq_true rfl⟩) rfl rfl (by decide) (fun _ => rfl) rfl hl.1 rfl (Nat.le_of_ble_eq_true rfl) dL_written_2 ⟨Nat.le_of_ble_eq_true rfl, Nat.le_of_ble_eq_true rfl⟩ (fun r2 u H locs hw hP hD hS => ?_)
  subst hw
  exact W.iret (v := (B) 10 (i)) hx hb hr (fun t ht hW => ⟨⟨(B) 10 (i), (), rfl, rfl, by rw [ht]; exact hP, va_K.moved hW.alike hK, hD⟩, hS.F ht⟩) hS.2.2 dL_written_5
set_option maxHeartbeats 4000000 in
set_option maxRecDepth 100000 in
theorem c_L_written_k (l : Launch) (hfl : l.stackTraces = false) (D : va_G) (cI cZ : ClassId) (a : Nat → Nat) (sz : Nat) (B : Nat → Nat → Int32) (R : Nat → Nat → Int32) (E : Nat → Nat → Int32) (td : Int32) (vx : Int32) (h : vx < 0 ∨ ¬ vx < B 11 0) : Met l yL_written wsL_written ({ frames := 8, cells := 1, slots := 6, locals := 132 } : Room) (va_Pc [.ref (a 0), .int (vx)] (PreX D cI cZ (wCA a cI cZ B R E (td)) sz)) (va_Qi (fun (r : Int32) (_ : Unit) => r = (-2000000001)) (fun (_ : Unit) => PostW D cI cZ (va_A (wCA a cI cZ B R E (td)) sz) (wCA a cI cZ B R E (td))) (va_A (wCA a cI cZ B R E (td)) sz)) 1 6 (va_A (wCA a cI cZ B R E (td)) sz) := by
  refine va_MetW (cc := cL_written) (maxL := 3) (ret := (some .int)) (hh := [(0, 5, 6, 13)]) (by decide) rfl ?_
  intro p e s m args below meth c s₁ BB hml hv
  obtain ⟨rfl, ⟨hsz, hP, hK, hD0⟩, hX, hZ⟩ := hv
  have hx := BB.exec
  have hb := BB.bytes
  have hr := BB.returns
  have hts := atoms_spec (ws := wsL_written) BB.pre
  have hown : s.vm.findClass RL = some m.cls := findClass_of_methodNamed BB.named
  have hlocks := BB.notSynchronized
  have htab : c.exceptionTable.toList = tableOf [(0, 5, 6, 13)] := vx_table (x := yL_written) BB (hts (.codeWith yL_written cL_written 3 (some .int) [(0, 5, 6, 13)]) List.mem_cons_self)
  clear BB
  subst hsz
  have hD := hD0.self (sz := s.heap.size)
  clear hD0
  generalize hAe : va_A (wCA a cI cZ B R E (td)) s.heap.size = A at hD hZ ⊢
  have hA : ∀ q : Nat, s.heap.size ≤ q → A q := fun q h => by rw [← hAe]; exact Or.inr h
  clear hAe
  have hl := lv_entry ([.ref (a 0), .int (vx)]) (n := 3) (Nat.le_of_ble_eq_true rfl)
  rw [lg_entry_eq]
  generalize (lg_sl ([.ref (a 0), .int (vx)]) ++ List.replicate (3 - (lg_sl ([.ref (a 0), .int (vx)])).length) Slot.unset).toArray = ls at hl ⊢
  have hl : lv_has ls 3 [(0, .ref (a 0)), (1, .int (vx))] := hl
  generalize hHe : s.heap = H at hP ⊢
  have hS : va_S A s.heap H [] := by rw [← hHe]; exact va_S.rf
  clear hHe
  generalize hLe : ([] : List Loc) = locs at hS ⊢
  clear hLe
  refine lv_aload_n hx hb dL_written_0 rfl (lv_at hl 0 rfl) ?_
  refine lv_iload_n hx hb dL_written_1 rfl (lv_at hl 1 rfl) ?_
  refine zxV (ci := 3) (q0 := 0) kCA ⟨hx, hb, hml, hown, hts⟩ (zwCA hP hD hS hA) hK hX hZ (x_X3_writtenOff l hfl D cI cZ a H.size (B) (R) (E) (td) (vx) (h)) (cwV 1 hts gL_written_X3_writtenOff rfl rfl rfl (by decide +kernel) ⟨Nat.le_of_ble_eq_true rfl, Nat.le_of_ble_eq_true rfl⟩) rfl rfl (by decide) rfl rfl hl.1 rfl (Nat.le_of_ble_eq_true rfl) dL_written_2 ⟨Nat.le_of_ble_eq_true rfl, Nat.le_of_ble_eq_true rfl⟩ (fun ce q9 H locs hP hD hS hce hcv hcl => ?_)
  refine vx_catch (E := eI) (name := eI) hown [] ⟨0, 5, 6, 13⟩ [] htab (fun z hz => nomatch hz) rfl (by decide) (hts (.classLink RL 13 "java/lang/IndexOutOfBoundsException") (by decide +kernel)) (va_Nw.use rfl (hX.1.2.1)) hce hcv hcl ?_
  refine lv_astore_n (lv' := [(2, .ref (q9)), (0, .ref (a 0)), (1, .int (vx))]) hx hb dL_written_6 rfl hl (by decide) rfl (fun ls hl => ?_)
  refine lv_ldc (v := -2000000001) hx hb hown (hts (.constant RL 15 (-2000000001)) (by decide +kernel)) dL_written_7 ?_
  exact W.iret (v := (-2000000001)) hx hb hr (fun t ht hW => ⟨⟨(-2000000001), (), rfl, rfl, by rw [ht]; exact hP, va_K.moved hW.alike hK, hD⟩, hS.F ht⟩) hS.2.2 dL_written_9
set_option maxHeartbeats 4000000 in
set_option maxRecDepth 100000 in
theorem c_L_openOf_0 (l : Launch) (D : va_G) (cI cZ : ClassId) (a : Nat → Nat) (sz : Nat) (B : Nat → Nat → Int32) (R : Nat → Nat → Int32) (E : Nat → Nat → Int32) (td : Int32) (n : Nat) (cu : Int32) (hB : B 11 0 = nI n) (hn : n ≤ 40) (h1 : ¬ cu < 0) (h2 : cu < 8) : Met l yL_openOf wsL_openOf ({ frames := 2, cells := 0, slots := 0, locals := 44 } : Room) (va_Pc [.ref (a 0), .int (cu)] (PreX D cI cZ (wCA a cI cZ B R E (td)) sz)) (va_Qi (fun (r : Int32) (_ : Unit) => r = oof B cu n) (fun (_ : Unit) => PostW D cI cZ (va_A (wCA a cI cZ B R E (td)) sz) (wCA a cI cZ B R E (td))) (va_A (wCA a cI cZ B R E (td)) sz)) 0 0 (va_A (wCA a cI cZ B R E (td)) sz) := by
  refine va_MetW (cc := cL_openOf) (maxL := 3) (ret := (some .int)) (hh := [(0, 5, 6, 13)]) (by decide) rfl ?_
  intro p e s m args below meth c s₁ BB hml hv
  obtain ⟨rfl, ⟨hsz, hP, hK, hD0⟩, hX, hZ⟩ := hv
  have hx := BB.exec
  have hb := BB.bytes
  have hr := BB.returns
  have hts := atoms_spec (ws := wsL_openOf) BB.pre
  have hown : s.vm.findClass RL = some m.cls := findClass_of_methodNamed BB.named
  have hlocks := BB.notSynchronized
  clear BB
  subst hsz
  have hD := hD0.self (sz := s.heap.size)
  clear hD0
  generalize hAe : va_A (wCA a cI cZ B R E (td)) s.heap.size = A at hD hZ ⊢
  have hA : ∀ q : Nat, s.heap.size ≤ q → A q := fun q h => by rw [← hAe]; exact Or.inr h
  clear hAe
  have hl := lv_entry ([.ref (a 0), .int (cu)]) (n := 3) (Nat.le_of_ble_eq_true rfl)
  rw [lg_entry_eq]
  generalize (lg_sl ([.ref (a 0), .int (cu)]) ++ List.replicate (3 - (lg_sl ([.ref (a 0), .int (cu)])).length) Slot.unset).toArray = ls at hl ⊢
  have hl : lv_has ls 3 [(0, .ref (a 0)), (1, .int (cu))] := hl
  generalize hHe : s.heap = H at hP ⊢
  have hS : va_S A s.heap H [] := by rw [← hHe]; exact va_S.rf
  clear hHe
  generalize hLe : ([] : List Loc) = locs at hS ⊢
  clear hLe
  refine lv_aload_n hx hb dL_openOf_0 rfl (lv_at hl 0 rfl) ?_
  refine lv_iload_n hx hb dL_openOf_1 rfl (lv_at hl 1 rfl) ?_
  refine zcVi (ci := 3) (q0 := 0) (wf := (fun (u : Unit) => (wCA a cI cZ B R E (td)))) (List.range 26) ⟨hx, hb, hml, hown, hts⟩ (zwAll 26 (by decide) rfl hP hD hS hA) hK (c_X3_openOf l D cI cZ a H.size (B) (R) (E) (td) (n) (cu) (by first | assumption | omega) (by first | assumption | omega) (by first | assumption | omega) (by first | assumption | omega)) (cwV 1 hts gL_openOf_X3_openOf rfl rfl rfl (by decide +kernel) ⟨Nat.le_of_ble_eq_true rfl, Nat.le_of_ble_eq_true rfl⟩) rfl rfl (by decide) (fun _ => rfl) rfl hl.1 rfl (Nat.le_of_ble_eq_true rfl) dL_openOf_2 ⟨Nat.le_of_ble_eq_true rfl, Nat.le_of_ble_eq_true rfl⟩ (fun r2 u H locs hw hP hD hS => ?_)
  subst hw
  exact W.iret (v := oof (B) (cu) n) hx hb hr (fun t ht hW => ⟨⟨oof (B) (cu) n, (), rfl, rfl, by rw [ht]; exact hP, va_K.moved hW.alike hK, hD⟩, hS.F ht⟩) hS.2.2 dL_openOf_5
set_option maxHeartbeats 4000000 in
set_option maxRecDepth 100000 in
theorem c_L_openOf_k (l : Launch) (hfl : l.stackTraces = false) (D : va_G) (cI cZ : ClassId) (a : Nat → Nat) (sz : Nat) (B : Nat → Nat → Int32) (R : Nat → Nat → Int32) (E : Nat → Nat → Int32) (td : Int32) (cu : Int32) (h : cu < 0 ∨ ¬ cu < 8) : Met l yL_openOf wsL_openOf ({ frames := 8, cells := 1, slots := 6, locals := 133 } : Room) (va_Pc [.ref (a 0), .int (cu)] (PreX D cI cZ (wCA a cI cZ B R E (td)) sz)) (va_Qi (fun (r : Int32) (_ : Unit) => r = (-2000000001)) (fun (_ : Unit) => PostW D cI cZ (va_A (wCA a cI cZ B R E (td)) sz) (wCA a cI cZ B R E (td))) (va_A (wCA a cI cZ B R E (td)) sz)) 1 6 (va_A (wCA a cI cZ B R E (td)) sz) := by
  refine va_MetW (cc := cL_openOf) (maxL := 3) (ret := (some .int)) (hh := [(0, 5, 6, 13)]) (by decide) rfl ?_
  intro p e s m args below meth c s₁ BB hml hv
  obtain ⟨rfl, ⟨hsz, hP, hK, hD0⟩, hX, hZ⟩ := hv
  have hx := BB.exec
  have hb := BB.bytes
  have hr := BB.returns
  have hts := atoms_spec (ws := wsL_openOf) BB.pre
  have hown : s.vm.findClass RL = some m.cls := findClass_of_methodNamed BB.named
  have hlocks := BB.notSynchronized
  have htab : c.exceptionTable.toList = tableOf [(0, 5, 6, 13)] := vx_table (x := yL_openOf) BB (hts (.codeWith yL_openOf cL_openOf 3 (some .int) [(0, 5, 6, 13)]) List.mem_cons_self)
  clear BB
  subst hsz
  have hD := hD0.self (sz := s.heap.size)
  clear hD0
  generalize hAe : va_A (wCA a cI cZ B R E (td)) s.heap.size = A at hD hZ ⊢
  have hA : ∀ q : Nat, s.heap.size ≤ q → A q := fun q h => by rw [← hAe]; exact Or.inr h
  clear hAe
  have hl := lv_entry ([.ref (a 0), .int (cu)]) (n := 3) (Nat.le_of_ble_eq_true rfl)
  rw [lg_entry_eq]
  generalize (lg_sl ([.ref (a 0), .int (cu)]) ++ List.replicate (3 - (lg_sl ([.ref (a 0), .int (cu)])).length) Slot.unset).toArray = ls at hl ⊢
  have hl : lv_has ls 3 [(0, .ref (a 0)), (1, .int (cu))] := hl
  generalize hHe : s.heap = H at hP ⊢
  have hS : va_S A s.heap H [] := by rw [← hHe]; exact va_S.rf
  clear hHe
  generalize hLe : ([] : List Loc) = locs at hS ⊢
  clear hLe
  refine lv_aload_n hx hb dL_openOf_0 rfl (lv_at hl 0 rfl) ?_
  refine lv_iload_n hx hb dL_openOf_1 rfl (lv_at hl 1 rfl) ?_
  refine zxV (ci := 3) (q0 := 0) kCA ⟨hx, hb, hml, hown, hts⟩ (zwCA hP hD hS hA) hK hX hZ (x_X3_openOf l hfl D cI cZ a H.size (B) (R) (E) (td) (cu) (h)) (cwV 1 hts gL_openOf_X3_openOf rfl rfl rfl (by decide +kernel) ⟨Nat.le_of_ble_eq_true rfl, Nat.le_of_ble_eq_true rfl⟩) rfl rfl (by decide) rfl rfl hl.1 rfl (Nat.le_of_ble_eq_true rfl) dL_openOf_2 ⟨Nat.le_of_ble_eq_true rfl, Nat.le_of_ble_eq_true rfl⟩ (fun ce q9 H locs hP hD hS hce hcv hcl => ?_)
  refine vx_catch (E := eI) (name := eI) hown [] ⟨0, 5, 6, 13⟩ [] htab (fun z hz => nomatch hz) rfl (by decide) (hts (.classLink RL 13 "java/lang/IndexOutOfBoundsException") (by decide +kernel)) (va_Nw.use rfl (hX.1.2.1)) hce hcv hcl ?_
  refine lv_astore_n (lv' := [(2, .ref (q9)), (0, .ref (a 0)), (1, .int (cu))]) hx hb dL_openOf_6 rfl hl (by decide) rfl (fun ls hl => ?_)
  refine lv_ldc (v := -2000000001) hx hb hown (hts (.constant RL 15 (-2000000001)) (by decide +kernel)) dL_openOf_7 ?_
  exact W.iret (v := (-2000000001)) hx hb hr (fun t ht hW => ⟨⟨(-2000000001), (), rfl, rfl, by rw [ht]; exact hP, va_K.moved hW.alike hK, hD⟩, hS.F ht⟩) hS.2.2 dL_openOf_9
set_option maxHeartbeats 4000000 in
set_option maxRecDepth 100000 in
theorem c_L_setFor_k (l : Launch) (hfl : l.stackTraces = false) (D : va_G) (cI cZ : ClassId) (a : Nat → Nat) (sz : Nat) (B : Nat → Nat → Int32) (R : Nat → Nat → Int32) (E : Nat → Nat → Int32) (td : Int32) (cu : Int32) (sm : Int32) (pl : Int32) (kk : Nat) (rv : Int32) (hk : stfK cu sm pl = kk) (h0 : ¬ kk = 0) (hv : cdA kk = rv) : Met l yL_setFor wsL_setFor ({ frames := 8, cells := 1, slots := 6, locals := 133 } : Room) (va_Pc [.ref (a 0), .int (cu), .int (sm), .int (pl)] (PreX D cI cZ (wCA a cI cZ B R E (td)) sz)) (va_Qi (fun (r : Int32) (_ : Unit) => r = rv) (fun (_ : Unit) => PostW D cI cZ (va_A (wCA a cI cZ B R E (td)) sz) (wCA a cI cZ B R E (td))) (va_A (wCA a cI cZ B R E (td)) sz)) 1 6 (va_A (wCA a cI cZ B R E (td)) sz) := by
  refine va_MetW (cc := cL_setFor) (maxL := 5) (ret := (some .int)) (hh := [(0, 7, 8, 13), (0, 7, 13, 16)]) (by decide) rfl ?_
  intro p e s m args below meth c s₁ BB hml hv
  obtain ⟨rfl, ⟨hsz, hP, hK, hD0⟩, hX, hZ⟩ := hv
  have hx := BB.exec
  have hb := BB.bytes
  have hr := BB.returns
  have hts := atoms_spec (ws := wsL_setFor) BB.pre
  have hown : s.vm.findClass RL = some m.cls := findClass_of_methodNamed BB.named
  have hlocks := BB.notSynchronized
  have htab : c.exceptionTable.toList = tableOf [(0, 7, 8, 13), (0, 7, 13, 16)] := vx_table (x := yL_setFor) BB (hts (.codeWith yL_setFor cL_setFor 5 (some .int) [(0, 7, 8, 13), (0, 7, 13, 16)]) List.mem_cons_self)
  clear BB
  subst hsz
  have hD := hD0.self (sz := s.heap.size)
  clear hD0
  generalize hAe : va_A (wCA a cI cZ B R E (td)) s.heap.size = A at hD hZ ⊢
  have hA : ∀ q : Nat, s.heap.size ≤ q → A q := fun q h => by rw [← hAe]; exact Or.inr h
  clear hAe
  have hl := lv_entry ([.ref (a 0), .int (cu), .int (sm), .int (pl)]) (n := 5) (Nat.le_of_ble_eq_true rfl)
  rw [lg_entry_eq]
  generalize (lg_sl ([.ref (a 0), .int (cu), .int (sm), .int (pl)]) ++ List.replicate (5 - (lg_sl ([.ref (a 0), .int (cu), .int (sm), .int (pl)])).length) Slot.unset).toArray = ls at hl ⊢
  have hl : lv_has ls 5 [(0, .ref (a 0)), (1, .int (cu)), (2, .int (sm)), (3, .int (pl))] := hl
  generalize hHe : s.heap = H at hP ⊢
  have hS : va_S A s.heap H [] := by rw [← hHe]; exact va_S.rf
  clear hHe
  generalize hLe : ([] : List Loc) = locs at hS ⊢
  clear hLe
  refine lv_aload_n hx hb dL_setFor_0 rfl (lv_at hl 0 rfl) ?_
  refine lv_iload_n hx hb dL_setFor_1 rfl (lv_at hl 1 rfl) ?_
  refine lv_iload_n hx hb dL_setFor_2 rfl (lv_at hl 2 rfl) ?_
  refine lv_iload_n hx hb dL_setFor_3 rfl (lv_at hl 3 rfl) ?_
  have hkc : stfK cu sm pl = kk := hk
  rcases (show stfK cu sm pl = 0 ∨ stfK cu sm pl = 1 ∨ stfK cu sm pl = 2 from stfK_c).resolve_left (fun z => h0 (hkc.symm.trans z)) with hk1 | hk2
  · -- 1
    refine zxV (ci := 3) (q0 := 0) kCA ⟨hx, hb, hml, hown, hts⟩ (zwCA hP hD hS hA) hK hX hZ (x_X3_setFor l hfl D cI cZ a H.size (B) (R) (E) (td) (cu) (sm) (pl) eI (fun z => h0 (hkc.symm.trans z)) (by rw [hk1]; rfl)) (cwV 3 hts gL_setFor_X3_setFor rfl rfl rfl (by decide +kernel) ⟨Nat.le_of_ble_eq_true rfl, Nat.le_of_ble_eq_true rfl⟩) rfl rfl (by decide) rfl rfl hl.1 rfl (Nat.le_of_ble_eq_true rfl) dL_setFor_4 ⟨Nat.le_of_ble_eq_true rfl, Nat.le_of_ble_eq_true rfl⟩ (fun ce q9 H locs hP hD hS hce hcv hcl => ?_)
    refine vx_catch (E := eI) (name := eI) hown [] ⟨0, 7, 8, 13⟩ [⟨0, 7, 13, 16⟩] htab (fun z hz => nomatch hz) rfl (by decide) (hts (.classLink RL 13 "java/lang/IndexOutOfBoundsException") (by decide +kernel)) (va_Nw.use rfl (hX.1.2.1)) hce hcv hcl ?_
    refine lv_astore (lv' := [(4, .ref (q9)), (0, .ref (a 0)), (1, .int (cu)), (2, .int (sm)), (3, .int (pl))]) hx hb dL_setFor_8 hl (by decide) rfl (fun ls hl => ?_)
    refine lv_ldc (v := -2000000001) hx hb hown (hts (.constant RL 15 (-2000000001)) (by decide +kernel)) dL_setFor_10 ?_
    exact W.iret (v := (-2000000001)) hx hb hr (fun t ht hW => ⟨⟨(-2000000001), (), rfl, (by rw [← hv, ← hkc, hk1]; rfl), by rw [ht]; exact hP, va_K.moved hW.alike hK, hD⟩, hS.F ht⟩) hS.2.2 dL_setFor_12
  · -- 2
    refine zxV (ci := 3) (q0 := 0) kCA ⟨hx, hb, hml, hown, hts⟩ (zwCA hP hD hS hA) hK hX hZ (x_X3_setFor l hfl D cI cZ a H.size (B) (R) (E) (td) (cu) (sm) (pl) eA (fun z => h0 (hkc.symm.trans z)) (by rw [hk2]; rfl)) (cwV 3 hts gL_setFor_X3_setFor rfl rfl rfl (by decide +kernel) ⟨Nat.le_of_ble_eq_true rfl, Nat.le_of_ble_eq_true rfl⟩) rfl rfl (by decide) rfl rfl hl.1 rfl (Nat.le_of_ble_eq_true rfl) dL_setFor_4 ⟨Nat.le_of_ble_eq_true rfl, Nat.le_of_ble_eq_true rfl⟩ (fun ce q9 H locs hP hD hS hce hcv hcl => ?_)
    refine vx_catch (E := eA) (name := eA) hown [⟨0, 7, 8, 13⟩] ⟨0, 7, 13, 16⟩ [] htab (List.forall_mem_cons.mpr ⟨Or.inr ⟨by decide, eI, hts (.classLink RL 13 "java/lang/IndexOutOfBoundsException") (by decide +kernel), hX.2.2.1⟩, fun z hz => nomatch hz⟩) rfl (by decide) (hts (.classLink RL 16 "java/lang/IllegalArgumentException") (by decide +kernel)) (va_Nw.use rfl (hX.1.2.2.1)) hce hcv hcl ?_
    refine lv_astore (lv' := [(4, .ref (q9)), (0, .ref (a 0)), (1, .int (cu)), (2, .int (sm)), (3, .int (pl))]) hx hb dL_setFor_13 hl (by decide) rfl (fun ls hl => ?_)
    refine lv_ldc (v := -2000000002) hx hb hown (hts (.constant RL 18 (-2000000002)) (by decide +kernel)) dL_setFor_15 ?_
    exact W.iret (v := (-2000000002)) hx hb hr (fun t ht hW => ⟨⟨(-2000000002), (), rfl, (by rw [← hv, ← hkc, hk2]; rfl), by rw [ht]; exact hP, va_K.moved hW.alike hK, hD⟩, hS.F ht⟩) hS.2.2 dL_setFor_17
set_option maxHeartbeats 4000000 in
set_option maxRecDepth 100000 in
theorem c_L_customer_0 (l : Launch) (D : va_G) (cI cZ : ClassId) (a : Nat → Nat) (sz : Nat) (B : Nat → Nat → Int32) (R : Nat → Nat → Int32) (E : Nat → Nat → Int32) (td : Int32) (q : Nat) (rc : Nat) (hR : R 8 0 = nI q) (hq : q ≤ 30) (hrq : rc < q) : Met l yL_customer wsL_customer ({ frames := 2, cells := 0, slots := 0, locals := 42 } : Room) (va_Pc [.ref (a 0), .int (nI (rc))] (PreX D cI cZ (wCA a cI cZ B R E (td)) sz)) (va_Qi (fun (r : Int32) (_ : Unit) => r = R 0 rc) (fun (_ : Unit) => PostW D cI cZ (va_A (wCA a cI cZ B R E (td)) sz) (wCA a cI cZ B R E (td))) (va_A (wCA a cI cZ B R E (td)) sz)) 0 0 (va_A (wCA a cI cZ B R E (td)) sz) := by
  refine va_MetW (cc := cL_customer) (maxL := 3) (ret := (some .int)) (hh := [(0, 5, 6, 13)]) (by decide) rfl ?_
  intro p e s m args below meth c s₁ BB hml hv
  obtain ⟨rfl, ⟨hsz, hP, hK, hD0⟩, hX, hZ⟩ := hv
  have hx := BB.exec
  have hb := BB.bytes
  have hr := BB.returns
  have hts := atoms_spec (ws := wsL_customer) BB.pre
  have hown : s.vm.findClass RL = some m.cls := findClass_of_methodNamed BB.named
  have hlocks := BB.notSynchronized
  clear BB
  subst hsz
  have hD := hD0.self (sz := s.heap.size)
  clear hD0
  generalize hAe : va_A (wCA a cI cZ B R E (td)) s.heap.size = A at hD hZ ⊢
  have hA : ∀ q : Nat, s.heap.size ≤ q → A q := fun q h => by rw [← hAe]; exact Or.inr h
  clear hAe
  have hl := lv_entry ([.ref (a 0), .int (nI (rc))]) (n := 3) (Nat.le_of_ble_eq_true rfl)
  rw [lg_entry_eq]
  generalize (lg_sl ([.ref (a 0), .int (nI (rc))]) ++ List.replicate (3 - (lg_sl ([.ref (a 0), .int (nI (rc))])).length) Slot.unset).toArray = ls at hl ⊢
  have hl : lv_has ls 3 [(0, .ref (a 0)), (1, .int (nI (rc)))] := hl
  generalize hHe : s.heap = H at hP ⊢
  have hS : va_S A s.heap H [] := by rw [← hHe]; exact va_S.rf
  clear hHe
  generalize hLe : ([] : List Loc) = locs at hS ⊢
  clear hLe
  refine lv_aload_n hx hb dL_customer_0 rfl (lv_at hl 0 rfl) ?_
  refine lv_iload_n hx hb dL_customer_1 rfl (lv_at hl 1 rfl) ?_
  refine zcVi (ci := 3) (q0 := 0) (wf := (fun (u : Unit) => (wCA a cI cZ B R E (td)))) (List.range 26) ⟨hx, hb, hml, hown, hts⟩ (zwAll 26 (by decide) rfl hP hD hS hA) hK (c_X3_customerOf l D cI cZ a H.size (B) (R) (E) (td) (q) (rc) (by first | assumption | omega) (by first | assumption | omega) (by first | assumption | omega)) (cwV 1 hts gL_customer_X3_customerOf rfl rfl rfl (by decide +kernel) ⟨Nat.le_of_ble_eq_true rfl, Nat.le_of_ble_eq_true rfl⟩) rfl rfl (by decide) (fun _ => rfl) rfl hl.1 rfl (Nat.le_of_ble_eq_true rfl) dL_customer_2 ⟨Nat.le_of_ble_eq_true rfl, Nat.le_of_ble_eq_true rfl⟩ (fun r2 u H locs hw hP hD hS => ?_)
  subst hw
  exact W.iret (v := (R) 0 (rc)) hx hb hr (fun t ht hW => ⟨⟨(R) 0 (rc), (), rfl, rfl, by rw [ht]; exact hP, va_K.moved hW.alike hK, hD⟩, hS.F ht⟩) hS.2.2 dL_customer_5
set_option maxHeartbeats 4000000 in
set_option maxRecDepth 100000 in
theorem c_L_customer_k (l : Launch) (hfl : l.stackTraces = false) (D : va_G) (cI cZ : ClassId) (a : Nat → Nat) (sz : Nat) (B : Nat → Nat → Int32) (R : Nat → Nat → Int32) (E : Nat → Nat → Int32) (td : Int32) (vx : Int32) (h : vx < 0 ∨ ¬ vx < R 8 0) : Met l yL_customer wsL_customer ({ frames := 8, cells := 1, slots := 6, locals := 132 } : Room) (va_Pc [.ref (a 0), .int (vx)] (PreX D cI cZ (wCA a cI cZ B R E (td)) sz)) (va_Qi (fun (r : Int32) (_ : Unit) => r = (-2000000001)) (fun (_ : Unit) => PostW D cI cZ (va_A (wCA a cI cZ B R E (td)) sz) (wCA a cI cZ B R E (td))) (va_A (wCA a cI cZ B R E (td)) sz)) 1 6 (va_A (wCA a cI cZ B R E (td)) sz) := by
  refine va_MetW (cc := cL_customer) (maxL := 3) (ret := (some .int)) (hh := [(0, 5, 6, 13)]) (by decide) rfl ?_
  intro p e s m args below meth c s₁ BB hml hv
  obtain ⟨rfl, ⟨hsz, hP, hK, hD0⟩, hX, hZ⟩ := hv
  have hx := BB.exec
  have hb := BB.bytes
  have hr := BB.returns
  have hts := atoms_spec (ws := wsL_customer) BB.pre
  have hown : s.vm.findClass RL = some m.cls := findClass_of_methodNamed BB.named
  have hlocks := BB.notSynchronized
  have htab : c.exceptionTable.toList = tableOf [(0, 5, 6, 13)] := vx_table (x := yL_customer) BB (hts (.codeWith yL_customer cL_customer 3 (some .int) [(0, 5, 6, 13)]) List.mem_cons_self)
  clear BB
  subst hsz
  have hD := hD0.self (sz := s.heap.size)
  clear hD0
  generalize hAe : va_A (wCA a cI cZ B R E (td)) s.heap.size = A at hD hZ ⊢
  have hA : ∀ q : Nat, s.heap.size ≤ q → A q := fun q h => by rw [← hAe]; exact Or.inr h
  clear hAe
  have hl := lv_entry ([.ref (a 0), .int (vx)]) (n := 3) (Nat.le_of_ble_eq_true rfl)
  rw [lg_entry_eq]
  generalize (lg_sl ([.ref (a 0), .int (vx)]) ++ List.replicate (3 - (lg_sl ([.ref (a 0), .int (vx)])).length) Slot.unset).toArray = ls at hl ⊢
  have hl : lv_has ls 3 [(0, .ref (a 0)), (1, .int (vx))] := hl
  generalize hHe : s.heap = H at hP ⊢
  have hS : va_S A s.heap H [] := by rw [← hHe]; exact va_S.rf
  clear hHe
  generalize hLe : ([] : List Loc) = locs at hS ⊢
  clear hLe
  refine lv_aload_n hx hb dL_customer_0 rfl (lv_at hl 0 rfl) ?_
  refine lv_iload_n hx hb dL_customer_1 rfl (lv_at hl 1 rfl) ?_
  refine zxV (ci := 3) (q0 := 0) kCA ⟨hx, hb, hml, hown, hts⟩ (zwCA hP hD hS hA) hK hX hZ (x_X3_customerOf l hfl D cI cZ a H.size (B) (R) (E) (td) (vx) (h)) (cwV 1 hts gL_customer_X3_customerOf rfl rfl rfl (by decide +kernel) ⟨Nat.le_of_ble_eq_true rfl, Nat.le_of_ble_eq_true rfl⟩) rfl rfl (by decide) rfl rfl hl.1 rfl (Nat.le_of_ble_eq_true rfl) dL_customer_2 ⟨Nat.le_of_ble_eq_true rfl, Nat.le_of_ble_eq_true rfl⟩ (fun ce q9 H locs hP hD hS hce hcv hcl => ?_)
  refine vx_catch (E := eI) (name := eI) hown [] ⟨0, 5, 6, 13⟩ [] htab (fun z hz => nomatch hz) rfl (by decide) (hts (.classLink RL 13 "java/lang/IndexOutOfBoundsException") (by decide +kernel)) (va_Nw.use rfl (hX.1.2.1)) hce hcv hcl ?_
  refine lv_astore_n (lv' := [(2, .ref (q9)), (0, .ref (a 0)), (1, .int (vx))]) hx hb dL_customer_6 rfl hl (by decide) rfl (fun ls hl => ?_)
  refine lv_ldc (v := -2000000001) hx hb hown (hts (.constant RL 15 (-2000000001)) (by decide +kernel)) dL_customer_7 ?_
  exact W.iret (v := (-2000000001)) hx hb hr (fun t ht hW => ⟨⟨(-2000000001), (), rfl, rfl, by rw [ht]; exact hP, va_K.moved hW.alike hK, hD⟩, hS.F ht⟩) hS.2.2 dL_customer_9
set_option maxHeartbeats 4000000 in
set_option maxRecDepth 100000 in
theorem c_L_appliedTo_0 (l : Launch) (D : va_G) (cI cZ : ClassId) (a : Nat → Nat) (sz : Nat) (B : Nat → Nat → Int32) (R : Nat → Nat → Int32) (E : Nat → Nat → Int32) (td : Int32) (n : Nat) (q : Nat) (rc : Nat) (b : Nat) (hB : B 11 0 = nI n) (hn : n ≤ 40) (hR : R 8 0 = nI q) (hq : q ≤ 30) (hrq : rc < q) (hbn : b < n) : Met l yL_appliedTo wsL_appliedTo ({ frames := 3, cells := 0, slots := 0, locals := 65 } : Room) (va_Pc [.ref (a 0), .int (nI (rc)), .int (nI (b))] (PreX D cI cZ (wCA a cI cZ B R E (td)) sz)) (va_Qi (fun (r : Int32) (_ : Unit) => r = R 6 (40 * rc + b)) (fun (_ : Unit) => PostW D cI cZ (va_A (wCA a cI cZ B R E (td)) sz) (wCA a cI cZ B R E (td))) (va_A (wCA a cI cZ B R E (td)) sz)) 0 0 (va_A (wCA a cI cZ B R E (td)) sz) := by
  refine va_MetW (cc := cL_appliedTo) (maxL := 4) (ret := (some .int)) (hh := [(0, 6, 7, 13)]) (by decide) rfl ?_
  intro p e s m args below meth c s₁ BB hml hv
  obtain ⟨rfl, ⟨hsz, hP, hK, hD0⟩, hX, hZ⟩ := hv
  have hx := BB.exec
  have hb := BB.bytes
  have hr := BB.returns
  have hts := atoms_spec (ws := wsL_appliedTo) BB.pre
  have hown : s.vm.findClass RL = some m.cls := findClass_of_methodNamed BB.named
  have hlocks := BB.notSynchronized
  clear BB
  subst hsz
  have hD := hD0.self (sz := s.heap.size)
  clear hD0
  generalize hAe : va_A (wCA a cI cZ B R E (td)) s.heap.size = A at hD hZ ⊢
  have hA : ∀ q : Nat, s.heap.size ≤ q → A q := fun q h => by rw [← hAe]; exact Or.inr h
  clear hAe
  have hl := lv_entry ([.ref (a 0), .int (nI (rc)), .int (nI (b))]) (n := 4) (Nat.le_of_ble_eq_true rfl)
  rw [lg_entry_eq]
  generalize (lg_sl ([.ref (a 0), .int (nI (rc)), .int (nI (b))]) ++ List.replicate (4 - (lg_sl ([.ref (a 0), .int (nI (rc)), .int (nI (b))])).length) Slot.unset).toArray = ls at hl ⊢
  have hl : lv_has ls 4 [(0, .ref (a 0)), (1, .int (nI (rc))), (2, .int (nI (b)))] := hl
  generalize hHe : s.heap = H at hP ⊢
  have hS : va_S A s.heap H [] := by rw [← hHe]; exact va_S.rf
  clear hHe
  generalize hLe : ([] : List Loc) = locs at hS ⊢
  clear hLe
  refine lv_aload_n hx hb dL_appliedTo_0 rfl (lv_at hl 0 rfl) ?_
  refine lv_iload_n hx hb dL_appliedTo_1 rfl (lv_at hl 1 rfl) ?_
  refine lv_iload_n hx hb dL_appliedTo_2 rfl (lv_at hl 2 rfl) ?_
  refine zcVi (ci := 3) (q0 := 0) (wf := (fun (u : Unit) => (wCA a cI cZ B R E (td)))) (List.range 26) ⟨hx, hb, hml, hown, hts⟩ (zwAll 26 (by decide) rfl hP hD hS hA) hK (c_X3_appliedTo l D cI cZ a H.size (B) (R) (E) (td) (n) (q) (rc) (b) (by first | assumption | omega) (by first | assumption | omega) (by first | assumption | omega) (by first | assumption | omega) (by first | assumption | omega) (by first | assumption | omega)) (cwV 2 hts gL_appliedTo_X3_appliedTo rfl rfl rfl (by decide +kernel) ⟨Nat.le_of_ble_eq_true rfl, Nat.le_of_ble_eq_true rfl⟩) rfl rfl (by decide) (fun _ => rfl) rfl hl.1 rfl (Nat.le_of_ble_eq_true rfl) dL_appliedTo_3 ⟨Nat.le_of_ble_eq_true rfl, Nat.le_of_ble_eq_true rfl⟩ (fun r3 u H locs hw hP hD hS => ?_)
  subst hw
  exact W.iret (v := (R) 6 (40 * (rc) + (b))) hx hb hr (fun t ht hW => ⟨⟨(R) 6 (40 * (rc) + (b)), (), rfl, rfl, by rw [ht]; exact hP, va_K.moved hW.alike hK, hD⟩, hS.F ht⟩) hS.2.2 dL_appliedTo_6
set_option maxHeartbeats 4000000 in
set_option maxRecDepth 100000 in
theorem c_L_appliedTo_k (l : Launch) (hfl : l.stackTraces = false) (D : va_G) (cI cZ : ClassId) (a : Nat → Nat) (sz : Nat) (B : Nat → Nat → Int32) (R : Nat → Nat → Int32) (E : Nat → Nat → Int32) (td : Int32) (vx : Int32) (vb : Int32) (h : (vx < 0 ∨ ¬ vx < R 8 0) ∨ (vb < 0 ∨ ¬ vb < B 11 0)) : Met l yL_appliedTo wsL_appliedTo ({ frames := 8, cells := 1, slots := 6, locals := 133 } : Room) (va_Pc [.ref (a 0), .int (vx), .int (vb)] (PreX D cI cZ (wCA a cI cZ B R E (td)) sz)) (va_Qi (fun (r : Int32) (_ : Unit) => r = (-2000000001)) (fun (_ : Unit) => PostW D cI cZ (va_A (wCA a cI cZ B R E (td)) sz) (wCA a cI cZ B R E (td))) (va_A (wCA a cI cZ B R E (td)) sz)) 1 6 (va_A (wCA a cI cZ B R E (td)) sz) := by
  refine va_MetW (cc := cL_appliedTo) (maxL := 4) (ret := (some .int)) (hh := [(0, 6, 7, 13)]) (by decide) rfl ?_
  intro p e s m args below meth c s₁ BB hml hv
  obtain ⟨rfl, ⟨hsz, hP, hK, hD0⟩, hX, hZ⟩ := hv
  have hx := BB.exec
  have hb := BB.bytes
  have hr := BB.returns
  have hts := atoms_spec (ws := wsL_appliedTo) BB.pre
  have hown : s.vm.findClass RL = some m.cls := findClass_of_methodNamed BB.named
  have hlocks := BB.notSynchronized
  have htab : c.exceptionTable.toList = tableOf [(0, 6, 7, 13)] := vx_table (x := yL_appliedTo) BB (hts (.codeWith yL_appliedTo cL_appliedTo 4 (some .int) [(0, 6, 7, 13)]) List.mem_cons_self)
  clear BB
  subst hsz
  have hD := hD0.self (sz := s.heap.size)
  clear hD0
  generalize hAe : va_A (wCA a cI cZ B R E (td)) s.heap.size = A at hD hZ ⊢
  have hA : ∀ q : Nat, s.heap.size ≤ q → A q := fun q h => by rw [← hAe]; exact Or.inr h
  clear hAe
  have hl := lv_entry ([.ref (a 0), .int (vx), .int (vb)]) (n := 4) (Nat.le_of_ble_eq_true rfl)
  rw [lg_entry_eq]
  generalize (lg_sl ([.ref (a 0), .int (vx), .int (vb)]) ++ List.replicate (4 - (lg_sl ([.ref (a 0), .int (vx), .int (vb)])).length) Slot.unset).toArray = ls at hl ⊢
  have hl : lv_has ls 4 [(0, .ref (a 0)), (1, .int (vx)), (2, .int (vb))] := hl
  generalize hHe : s.heap = H at hP ⊢
  have hS : va_S A s.heap H [] := by rw [← hHe]; exact va_S.rf
  clear hHe
  generalize hLe : ([] : List Loc) = locs at hS ⊢
  clear hLe
  refine lv_aload_n hx hb dL_appliedTo_0 rfl (lv_at hl 0 rfl) ?_
  refine lv_iload_n hx hb dL_appliedTo_1 rfl (lv_at hl 1 rfl) ?_
  refine lv_iload_n hx hb dL_appliedTo_2 rfl (lv_at hl 2 rfl) ?_
  refine zxV (ci := 3) (q0 := 0) kCA ⟨hx, hb, hml, hown, hts⟩ (zwCA hP hD hS hA) hK hX hZ (x_X3_appliedTo l hfl D cI cZ a H.size (B) (R) (E) (td) (vx) (vb) (h)) (cwV 2 hts gL_appliedTo_X3_appliedTo rfl rfl rfl (by decide +kernel) ⟨Nat.le_of_ble_eq_true rfl, Nat.le_of_ble_eq_true rfl⟩) rfl rfl (by decide) rfl rfl hl.1 rfl (Nat.le_of_ble_eq_true rfl) dL_appliedTo_3 ⟨Nat.le_of_ble_eq_true rfl, Nat.le_of_ble_eq_true rfl⟩ (fun ce q9 H locs hP hD hS hce hcv hcl => ?_)
  refine vx_catch (E := eI) (name := eI) hown [] ⟨0, 6, 7, 13⟩ [] htab (fun z hz => nomatch hz) rfl (by decide) (hts (.classLink RL 13 "java/lang/IndexOutOfBoundsException") (by decide +kernel)) (va_Nw.use rfl (hX.1.2.1)) hce hcv hcl ?_
  refine lv_astore_n (lv' := [(3, .ref (q9)), (0, .ref (a 0)), (1, .int (vx)), (2, .int (vb))]) hx hb dL_appliedTo_7 rfl hl (by decide) rfl (fun ls hl => ?_)
  refine lv_ldc (v := -2000000001) hx hb hown (hts (.constant RL 15 (-2000000001)) (by decide +kernel)) dL_appliedTo_8 ?_
  exact W.iret (v := (-2000000001)) hx hb hr (fun t ht hW => ⟨⟨(-2000000001), (), rfl, rfl, by rw [ht]; exact hP, va_K.moved hW.alike hK, hD⟩, hS.F ht⟩) hS.2.2 dL_appliedTo_10
set_option maxHeartbeats 4000000 in
set_option maxRecDepth 100000 in
theorem c_L_unapplied_0 (l : Launch) (D : va_G) (cI cZ : ClassId) (a : Nat → Nat) (sz : Nat) (B : Nat → Nat → Int32) (R : Nat → Nat → Int32) (E : Nat → Nat → Int32) (td : Int32) (q : Nat) (rc : Nat) (hR : R 8 0 = nI q) (hq : q ≤ 30) (hrq : rc < q) : Met l yL_unapplied wsL_unapplied ({ frames := 2, cells := 0, slots := 0, locals := 42 } : Room) (va_Pc [.ref (a 0), .int (nI (rc))] (PreX D cI cZ (wCA a cI cZ B R E (td)) sz)) (va_Qi (fun (r : Int32) (_ : Unit) => r = R 3 rc) (fun (_ : Unit) => PostW D cI cZ (va_A (wCA a cI cZ B R E (td)) sz) (wCA a cI cZ B R E (td))) (va_A (wCA a cI cZ B R E (td)) sz)) 0 0 (va_A (wCA a cI cZ B R E (td)) sz) := by
  refine va_MetW (cc := cL_unapplied) (maxL := 3) (ret := (some .int)) (hh := [(0, 5, 6, 13)]) (by decide) rfl ?_
  intro p e s m args below meth c s₁ BB hml hv
  obtain ⟨rfl, ⟨hsz, hP, hK, hD0⟩, hX, hZ⟩ := hv
  have hx := BB.exec
  have hb := BB.bytes
  have hr := BB.returns
  have hts := atoms_spec (ws := wsL_unapplied) BB.pre
  have hown : s.vm.findClass RL = some m.cls := findClass_of_methodNamed BB.named
  have hlocks := BB.notSynchronized
  clear BB
  subst hsz
  have hD := hD0.self (sz := s.heap.size)
  clear hD0
  generalize hAe : va_A (wCA a cI cZ B R E (td)) s.heap.size = A at hD hZ ⊢
  have hA : ∀ q : Nat, s.heap.size ≤ q → A q := fun q h => by rw [← hAe]; exact Or.inr h
  clear hAe
  have hl := lv_entry ([.ref (a 0), .int (nI (rc))]) (n := 3) (Nat.le_of_ble_eq_true rfl)
  rw [lg_entry_eq]
  generalize (lg_sl ([.ref (a 0), .int (nI (rc))]) ++ List.replicate (3 - (lg_sl ([.ref (a 0), .int (nI (rc))])).length) Slot.unset).toArray = ls at hl ⊢
  have hl : lv_has ls 3 [(0, .ref (a 0)), (1, .int (nI (rc)))] := hl
  generalize hHe : s.heap = H at hP ⊢
  have hS : va_S A s.heap H [] := by rw [← hHe]; exact va_S.rf
  clear hHe
  generalize hLe : ([] : List Loc) = locs at hS ⊢
  clear hLe
  refine lv_aload_n hx hb dL_unapplied_0 rfl (lv_at hl 0 rfl) ?_
  refine lv_iload_n hx hb dL_unapplied_1 rfl (lv_at hl 1 rfl) ?_
  refine zcVi (ci := 3) (q0 := 0) (wf := (fun (u : Unit) => (wCA a cI cZ B R E (td)))) (List.range 26) ⟨hx, hb, hml, hown, hts⟩ (zwAll 26 (by decide) rfl hP hD hS hA) hK (c_X3_unapplied l D cI cZ a H.size (B) (R) (E) (td) (q) (rc) (by first | assumption | omega) (by first | assumption | omega) (by first | assumption | omega)) (cwV 1 hts gL_unapplied_X3_unapplied rfl rfl rfl (by decide +kernel) ⟨Nat.le_of_ble_eq_true rfl, Nat.le_of_ble_eq_true rfl⟩) rfl rfl (by decide) (fun _ => rfl) rfl hl.1 rfl (Nat.le_of_ble_eq_true rfl) dL_unapplied_2 ⟨Nat.le_of_ble_eq_true rfl, Nat.le_of_ble_eq_true rfl⟩ (fun r2 u H locs hw hP hD hS => ?_)
  subst hw
  exact W.iret (v := (R) 3 (rc)) hx hb hr (fun t ht hW => ⟨⟨(R) 3 (rc), (), rfl, rfl, by rw [ht]; exact hP, va_K.moved hW.alike hK, hD⟩, hS.F ht⟩) hS.2.2 dL_unapplied_5
set_option maxHeartbeats 4000000 in
set_option maxRecDepth 100000 in
theorem c_L_unapplied_k (l : Launch) (hfl : l.stackTraces = false) (D : va_G) (cI cZ : ClassId) (a : Nat → Nat) (sz : Nat) (B : Nat → Nat → Int32) (R : Nat → Nat → Int32) (E : Nat → Nat → Int32) (td : Int32) (vx : Int32) (h : vx < 0 ∨ ¬ vx < R 8 0) : Met l yL_unapplied wsL_unapplied ({ frames := 8, cells := 1, slots := 6, locals := 132 } : Room) (va_Pc [.ref (a 0), .int (vx)] (PreX D cI cZ (wCA a cI cZ B R E (td)) sz)) (va_Qi (fun (r : Int32) (_ : Unit) => r = (-2000000001)) (fun (_ : Unit) => PostW D cI cZ (va_A (wCA a cI cZ B R E (td)) sz) (wCA a cI cZ B R E (td))) (va_A (wCA a cI cZ B R E (td)) sz)) 1 6 (va_A (wCA a cI cZ B R E (td)) sz) := by
  refine va_MetW (cc := cL_unapplied) (maxL := 3) (ret := (some .int)) (hh := [(0, 5, 6, 13)]) (by decide) rfl ?_
  intro p e s m args below meth c s₁ BB hml hv
  obtain ⟨rfl, ⟨hsz, hP, hK, hD0⟩, hX, hZ⟩ := hv
  have hx := BB.exec
  have hb := BB.bytes
  have hr := BB.returns
  have hts := atoms_spec (ws := wsL_unapplied) BB.pre
  have hown : s.vm.findClass RL = some m.cls := findClass_of_methodNamed BB.named
  have hlocks := BB.notSynchronized
  have htab : c.exceptionTable.toList = tableOf [(0, 5, 6, 13)] := vx_table (x := yL_unapplied) BB (hts (.codeWith yL_unapplied cL_unapplied 3 (some .int) [(0, 5, 6, 13)]) List.mem_cons_self)
  clear BB
  subst hsz
  have hD := hD0.self (sz := s.heap.size)
  clear hD0
  generalize hAe : va_A (wCA a cI cZ B R E (td)) s.heap.size = A at hD hZ ⊢
  have hA : ∀ q : Nat, s.heap.size ≤ q → A q := fun q h => by rw [← hAe]; exact Or.inr h
  clear hAe
  have hl := lv_entry ([.ref (a 0), .int (vx)]) (n := 3) (Nat.le_of_ble_eq_true rfl)
  rw [lg_entry_eq]
  generalize (lg_sl ([.ref (a 0), .int (vx)]) ++ List.replicate (3 - (lg_sl ([.ref (a 0), .int (vx)])).length) Slot.unset).toArray = ls at hl ⊢
  have hl : lv_has ls 3 [(0, .ref (a 0)), (1, .int (vx))] := hl
  generalize hHe : s.heap = H at hP ⊢
  have hS : va_S A s.heap H [] := by rw [← hHe]; exact va_S.rf
  clear hHe
  generalize hLe : ([] : List Loc) = locs at hS ⊢
  clear hLe
  refine lv_aload_n hx hb dL_unapplied_0 rfl (lv_at hl 0 rfl) ?_
  refine lv_iload_n hx hb dL_unapplied_1 rfl (lv_at hl 1 rfl) ?_
  refine zxV (ci := 3) (q0 := 0) kCA ⟨hx, hb, hml, hown, hts⟩ (zwCA hP hD hS hA) hK hX hZ (x_X3_unapplied l hfl D cI cZ a H.size (B) (R) (E) (td) (vx) (h)) (cwV 1 hts gL_unapplied_X3_unapplied rfl rfl rfl (by decide +kernel) ⟨Nat.le_of_ble_eq_true rfl, Nat.le_of_ble_eq_true rfl⟩) rfl rfl (by decide) rfl rfl hl.1 rfl (Nat.le_of_ble_eq_true rfl) dL_unapplied_2 ⟨Nat.le_of_ble_eq_true rfl, Nat.le_of_ble_eq_true rfl⟩ (fun ce q9 H locs hP hD hS hce hcv hcl => ?_)
  refine vx_catch (E := eI) (name := eI) hown [] ⟨0, 5, 6, 13⟩ [] htab (fun z hz => nomatch hz) rfl (by decide) (hts (.classLink RL 13 "java/lang/IndexOutOfBoundsException") (by decide +kernel)) (va_Nw.use rfl (hX.1.2.1)) hce hcv hcl ?_
  refine lv_astore_n (lv' := [(2, .ref (q9)), (0, .ref (a 0)), (1, .int (vx))]) hx hb dL_unapplied_6 rfl hl (by decide) rfl (fun ls hl => ?_)
  refine lv_ldc (v := -2000000001) hx hb hown (hts (.constant RL 15 (-2000000001)) (by decide +kernel)) dL_unapplied_7 ?_
  exact W.iret (v := (-2000000001)) hx hb hr (fun t ht hW => ⟨⟨(-2000000001), (), rfl, rfl, by rw [ht]; exact hP, va_K.moved hW.alike hK, hD⟩, hS.F ht⟩) hS.2.2 dL_unapplied_9
set_option maxHeartbeats 4000000 in
set_option maxRecDepth 100000 in
theorem c_L_bounced_0 (l : Launch) (D : va_G) (cI cZ : ClassId) (a : Nat → Nat) (sz : Nat) (B : Nat → Nat → Int32) (R : Nat → Nat → Int32) (E : Nat → Nat → Int32) (td : Int32) (q : Nat) (rc : Nat) (hR : R 8 0 = nI q) (hq : q ≤ 30) (hrq : rc < q) (hz : R 5 rc = 0 ∨ R 5 rc = 1) : Met l yL_bounced wsL_bounced ({ frames := 2, cells := 0, slots := 0, locals := 42 } : Room) (va_Pc [.ref (a 0), .int (nI (rc))] (PreX D cI cZ (wCA a cI cZ B R E (td)) sz)) (va_Qi (fun (r : Int32) (_ : Unit) => r = R 5 rc) (fun (_ : Unit) => PostW D cI cZ (va_A (wCA a cI cZ B R E (td)) sz) (wCA a cI cZ B R E (td))) (va_A (wCA a cI cZ B R E (td)) sz)) 0 0 (va_A (wCA a cI cZ B R E (td)) sz) := by
  refine va_MetW (cc := cL_bounced) (maxL := 3) (ret := (some .int)) (hh := [(0, 13, 14, 13)]) (by decide) rfl ?_
  intro p e s m args below meth c s₁ BB hml hv
  obtain ⟨rfl, ⟨hsz, hP, hK, hD0⟩, hX, hZ⟩ := hv
  have hx := BB.exec
  have hb := BB.bytes
  have hr := BB.returns
  have hts := atoms_spec (ws := wsL_bounced) BB.pre
  have hown : s.vm.findClass RL = some m.cls := findClass_of_methodNamed BB.named
  have hlocks := BB.notSynchronized
  clear BB
  subst hsz
  have hD := hD0.self (sz := s.heap.size)
  clear hD0
  generalize hAe : va_A (wCA a cI cZ B R E (td)) s.heap.size = A at hD hZ ⊢
  have hA : ∀ q : Nat, s.heap.size ≤ q → A q := fun q h => by rw [← hAe]; exact Or.inr h
  clear hAe
  have hl := lv_entry ([.ref (a 0), .int (nI (rc))]) (n := 3) (Nat.le_of_ble_eq_true rfl)
  rw [lg_entry_eq]
  generalize (lg_sl ([.ref (a 0), .int (nI (rc))]) ++ List.replicate (3 - (lg_sl ([.ref (a 0), .int (nI (rc))])).length) Slot.unset).toArray = ls at hl ⊢
  have hl : lv_has ls 3 [(0, .ref (a 0)), (1, .int (nI (rc)))] := hl
  generalize hHe : s.heap = H at hP ⊢
  have hS : va_S A s.heap H [] := by rw [← hHe]; exact va_S.rf
  clear hHe
  generalize hLe : ([] : List Loc) = locs at hS ⊢
  clear hLe
  refine lv_aload_n hx hb dL_bounced_0 rfl (lv_at hl 0 rfl) ?_
  refine lv_iload_n hx hb dL_bounced_1 rfl (lv_at hl 1 rfl) ?_
  refine zcVi (ci := 3) (q0 := 0) (wf := (fun (u : Unit) => (wCA a cI cZ B R E (td)))) (List.range 26) ⟨hx, hb, hml, hown, hts⟩ (zwAll 26 (by decide) rfl hP hD hS hA) hK (c_X3_hasBounced l D cI cZ a H.size (B) (R) (E) (td) (q) (rc) (by first | assumption | omega) (by first | assumption | omega) (by first | assumption | omega) (by first | assumption | omega)) (cwV 1 hts gL_bounced_X3_hasBounced rfl rfl rfl (by decide +kernel) ⟨Nat.le_of_ble_eq_true rfl, Nat.le_of_ble_eq_true rfl⟩) rfl rfl (by decide) (fun _ => rfl) rfl hl.1 rfl (Nat.le_of_ble_eq_true rfl) dL_bounced_2 ⟨Nat.le_of_ble_eq_true rfl, Nat.le_of_ble_eq_true rfl⟩ (fun r2 u H locs hw hP hD hS => ?_)
  subst hw
  refine lv_if_eq (tgt := 12) hx hb dL_bounced_5 (by decide) (fun c5 => ?_) (fun c5 => ?_)
  · -- 5 taken
    refine lv_iconst (v := 0) hx hb dL_bounced_12 (by decide) ?_
    exact W.iret (v := 0) hx hb hr (fun t ht hW => ⟨⟨0, (), rfl, (by have h9 := hz; first | (rcases h9 with h9 | h9 <;> first | (rw [h9]; rfl) | exact absurd h9 c7 | exact absurd (c7.symm.trans h9) (by decide)) | simp_all), by rw [ht]; exact hP, va_K.moved hW.alike hK, hD⟩, hS.F ht⟩) hS.2.2 dL_bounced_13
  · -- 5 on
    refine lv_iconst (v := 1) hx hb dL_bounced_8 (by decide) ?_
    refine lv_goto (tgt := 13) hx hb dL_bounced_9 (by decide) ?_
    exact W.iret (v := 1) hx hb hr (fun t ht hW => ⟨⟨1, (), rfl, (by have h9 := hz; first | (rcases h9 with h9 | h9 <;> first | (rw [h9]; rfl) | exact absurd h9 c7 | exact absurd (c7.symm.trans h9) (by decide)) | simp_all), by rw [ht]; exact hP, va_K.moved hW.alike hK, hD⟩, hS.F ht⟩) hS.2.2 dL_bounced_13
set_option maxHeartbeats 4000000 in
set_option maxRecDepth 100000 in
theorem c_L_bounced_k (l : Launch) (hfl : l.stackTraces = false) (D : va_G) (cI cZ : ClassId) (a : Nat → Nat) (sz : Nat) (B : Nat → Nat → Int32) (R : Nat → Nat → Int32) (E : Nat → Nat → Int32) (td : Int32) (vx : Int32) (h : vx < 0 ∨ ¬ vx < R 8 0) : Met l yL_bounced wsL_bounced ({ frames := 8, cells := 1, slots := 6, locals := 132 } : Room) (va_Pc [.ref (a 0), .int (vx)] (PreX D cI cZ (wCA a cI cZ B R E (td)) sz)) (va_Qi (fun (r : Int32) (_ : Unit) => r = (-2000000001)) (fun (_ : Unit) => PostW D cI cZ (va_A (wCA a cI cZ B R E (td)) sz) (wCA a cI cZ B R E (td))) (va_A (wCA a cI cZ B R E (td)) sz)) 1 6 (va_A (wCA a cI cZ B R E (td)) sz) := by
  refine va_MetW (cc := cL_bounced) (maxL := 3) (ret := (some .int)) (hh := [(0, 13, 14, 13)]) (by decide) rfl ?_
  intro p e s m args below meth c s₁ BB hml hv
  obtain ⟨rfl, ⟨hsz, hP, hK, hD0⟩, hX, hZ⟩ := hv
  have hx := BB.exec
  have hb := BB.bytes
  have hr := BB.returns
  have hts := atoms_spec (ws := wsL_bounced) BB.pre
  have hown : s.vm.findClass RL = some m.cls := findClass_of_methodNamed BB.named
  have hlocks := BB.notSynchronized
  have htab : c.exceptionTable.toList = tableOf [(0, 13, 14, 13)] := vx_table (x := yL_bounced) BB (hts (.codeWith yL_bounced cL_bounced 3 (some .int) [(0, 13, 14, 13)]) List.mem_cons_self)
  clear BB
  subst hsz
  have hD := hD0.self (sz := s.heap.size)
  clear hD0
  generalize hAe : va_A (wCA a cI cZ B R E (td)) s.heap.size = A at hD hZ ⊢
  have hA : ∀ q : Nat, s.heap.size ≤ q → A q := fun q h => by rw [← hAe]; exact Or.inr h
  clear hAe
  have hl := lv_entry ([.ref (a 0), .int (vx)]) (n := 3) (Nat.le_of_ble_eq_true rfl)
  rw [lg_entry_eq]
  generalize (lg_sl ([.ref (a 0), .int (vx)]) ++ List.replicate (3 - (lg_sl ([.ref (a 0), .int (vx)])).length) Slot.unset).toArray = ls at hl ⊢
  have hl : lv_has ls 3 [(0, .ref (a 0)), (1, .int (vx))] := hl
  generalize hHe : s.heap = H at hP ⊢
  have hS : va_S A s.heap H [] := by rw [← hHe]; exact va_S.rf
  clear hHe
  generalize hLe : ([] : List Loc) = locs at hS ⊢
  clear hLe
  refine lv_aload_n hx hb dL_bounced_0 rfl (lv_at hl 0 rfl) ?_
  refine lv_iload_n hx hb dL_bounced_1 rfl (lv_at hl 1 rfl) ?_
  refine zxV (ci := 3) (q0 := 0) kCA ⟨hx, hb, hml, hown, hts⟩ (zwCA hP hD hS hA) hK hX hZ (x_X3_hasBounced l hfl D cI cZ a H.size (B) (R) (E) (td) (vx) (h)) (cwV 1 hts gL_bounced_X3_hasBounced rfl rfl rfl (by decide +kernel) ⟨Nat.le_of_ble_eq_true rfl, Nat.le_of_ble_eq_true rfl⟩) rfl rfl (by decide) rfl rfl hl.1 rfl (Nat.le_of_ble_eq_true rfl) dL_bounced_2 ⟨Nat.le_of_ble_eq_true rfl, Nat.le_of_ble_eq_true rfl⟩ (fun ce q9 H locs hP hD hS hce hcv hcl => ?_)
  refine vx_catch (E := eI) (name := eI) hown [] ⟨0, 13, 14, 13⟩ [] htab (fun z hz => nomatch hz) rfl (by decide) (hts (.classLink RL 13 "java/lang/IndexOutOfBoundsException") (by decide +kernel)) (va_Nw.use rfl (hX.1.2.1)) hce hcv hcl ?_
  refine lv_astore_n (lv' := [(2, .ref (q9)), (0, .ref (a 0)), (1, .int (vx))]) hx hb dL_bounced_14 rfl hl (by decide) rfl (fun ls hl => ?_)
  refine lv_ldc (v := -2000000001) hx hb hown (hts (.constant RL 15 (-2000000001)) (by decide +kernel)) dL_bounced_15 ?_
  exact W.iret (v := (-2000000001)) hx hb hr (fun t ht hW => ⟨⟨(-2000000001), (), rfl, rfl, by rw [ht]; exact hP, va_K.moved hW.alike hK, hD⟩, hS.F ht⟩) hS.2.2 dL_bounced_17
