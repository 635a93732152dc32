set_option maxRecDepth 20000 in
theorem ggL_bill_X3_bill : GoodIn wsL_bill wsX3_bill := goodIn_ca (goodIn_ca (goodIn_ca (goodIn_r _ [8, 9, 10, 11, 12, 13, 14, 15, 16, 7, 17, 18, 19, 20, 21, 22, 23, 24, 25, 26, 27, 28, 29, 30, 31, 32, 33, 34, 35, 36, 37, 38, 39, 40, 41, 42, 43, 44, 45, 46, 47, 48, 49, 50, 51, 52, 53, 54, 55, 56, 57] (by rfl) (by rfl)) (goodIn_sub (fun _ h => List.mem_cons_of_mem _ (List.mem_append_left _ (List.mem_append_left _ (List.mem_append_right _ h)))) (by rfl))) (goodIn_sub (fun _ h => List.mem_cons_of_mem _ (List.mem_append_left _ (List.mem_append_right _ h))) (by rfl))) (goodIn_sub (fun _ h => List.mem_cons_of_mem _ (List.mem_append_right _ h)) (by rfl))
set_option maxRecDepth 20000 in
theorem gL_bill_X3_bill : GoodIn wsL_bill (wsV RL 7 RX3 yX3_bill wsX3_bill) := goodIn_app (goodIn_r _ [4, 5, 6, 7] (by rfl) (by rfl)) ggL_bill_X3_bill
set_option maxRecDepth 20000 in
theorem ggL_receive_X3_receive : GoodIn wsL_receive wsX3_receive := goodIn_ca (goodIn_ca (goodIn_ca (goodIn_r _ [8, 9, 10, 11, 12, 13, 14, 15, 7, 16, 17, 18, 19, 20, 21, 22, 23, 24, 25, 26, 27, 28, 29, 30, 31, 32, 33, 34, 35, 36, 37, 38, 39, 40, 41, 42, 43, 44, 45, 46, 47, 48, 49, 50, 51, 52, 53, 54, 55, 56, 57, 58, 59, 60, 61, 62, 63, 64, 65, 66, 67, 68, 69, 70, 71, 72, 73, 74, 75, 76, 77, 78, 79, 80, 81, 82, 83, 84, 85, 86, 87, 88, 89, 90, 91, 92, 93, 94, 95, 96, 97, 98, 99, 100, 101, 102, 103, 104, 105, 106, 107, 108, 109, 110, 111, 112, 113, 114, 115, 116, 117, 118, 119, 120, 121, 122, 123, 124, 125, 126, 127, 128, 129, 130, 131, 132, 133, 134, 135, 136, 137, 138, 139, 140, 141, 142, 143, 144, 145, 146, 147, 148, 149, 150, 151, 152, 153, 154, 155, 156, 157, 158, 159, 160, 161, 162, 163, 164, 165, 166, 167, 168, 169, 170, 171, 172, 173, 174, 175, 176, 177, 178] (by rfl) (by rfl)) (goodIn_sub (fun _ h => List.mem_cons_of_mem _ (List.mem_append_left _ (List.mem_append_left _ (List.mem_append_right _ h)))) (by rfl))) (goodIn_sub (fun _ h => List.mem_cons_of_mem _ (List.mem_append_left _ (List.mem_append_right _ h))) (by rfl))) (goodIn_sub (fun _ h => List.mem_cons_of_mem _ (List.mem_append_right _ h)) (by rfl))
set_option maxRecDepth 20000 in
theorem gL_receive_X3_receive : GoodIn wsL_receive (wsV RL 19 RX3 yX3_receive wsX3_receive) := goodIn_app (goodIn_r _ [4, 5, 6, 7] (by rfl) (by rfl)) ggL_receive_X3_receive
set_option maxRecDepth 20000 in
theorem ggL_assign_X3_assign : GoodIn wsL_assign wsX3_assign := goodIn_ca (goodIn_ca (goodIn_r _ [7, 8, 9, 10, 11, 12, 13, 14, 15, 6, 16, 17, 18, 19, 20, 21, 22, 23, 24, 25, 26, 27, 28, 29, 30, 31, 32, 33, 34, 35, 36, 37, 38, 39, 40, 41, 42, 43, 44, 45, 46, 47, 48, 49, 50, 51, 52, 53, 54, 55, 56, 57, 58, 59, 60, 61, 62, 63, 64, 65, 66, 67, 68, 69, 70, 71, 72, 73, 74, 75, 76, 77, 78, 79, 80, 81, 82, 83, 84, 85, 86, 87, 88, 89, 90, 91, 92, 93, 94, 95, 96, 97, 98, 99, 100, 101, 102, 103, 104, 105, 106, 107, 108, 109, 110, 111, 112, 113, 114, 115, 116, 117, 118, 119, 120, 121, 122, 123, 124, 125, 126, 127, 128, 129, 130, 131, 132, 133, 134, 135, 136, 137, 138, 139, 140, 141, 142, 143, 144, 145, 146, 147, 148, 149, 150, 151, 152, 153, 154, 155, 156, 157] (by rfl) (by rfl)) (goodIn_sub (fun _ h => List.mem_cons_of_mem _ (List.mem_append_left _ (List.mem_append_right _ h))) (by rfl))) (goodIn_sub (fun _ h => List.mem_cons_of_mem _ (List.mem_append_right _ h)) (by rfl))
set_option maxRecDepth 20000 in
theorem gL_assign_X3_assign : GoodIn wsL_assign (wsV RL 23 RX3 yX3_assign wsX3_assign) := goodIn_app (goodIn_r _ [3, 4, 5, 6] (by rfl) (by rfl)) ggL_assign_X3_assign
set_option maxRecDepth 20000 in
theorem ggL_apply_X3_apply : GoodIn wsL_apply wsX3_apply := goodIn_ca (goodIn_ca (goodIn_r _ [7, 8, 9, 10, 11, 12, 13, 14, 15, 6, 16, 17, 18, 19, 20, 21, 22, 23, 24, 25, 26, 27, 28, 29, 30, 31, 32, 33, 34, 35, 36, 37, 38, 39, 40, 41, 42, 43, 44, 45, 46, 47, 48, 49, 50, 51, 52, 53, 54, 55, 56, 57, 58, 59, 60, 61, 62, 63, 64, 65, 66, 67, 68, 69, 70, 71, 72, 73, 74, 75, 76, 77, 78, 79, 80, 81, 82, 83, 84, 85, 86, 87, 88, 89, 90, 91, 92, 93, 94, 95, 96, 97, 98, 99, 100, 101, 102, 103, 104, 105, 106, 107, 108, 109, 110, 111, 112, 113, 114, 115, 116, 117, 118, 119, 120, 121, 122, 123, 124, 125, 126, 127, 128, 129, 130, 131, 132, 133, 134, 135, 136, 137, 138, 139, 140, 141, 142, 143, 144, 145, 146, 147, 148, 149, 150, 151, 152, 153, 154] (by rfl) (by rfl)) (goodIn_sub (fun _ h => List.mem_cons_of_mem _ (List.mem_append_left _ (List.mem_append_right _ h))) (by rfl))) (goodIn_sub (fun _ h => List.mem_cons_of_mem _ (List.mem_append_right _ h)) (by rfl))
set_option maxRecDepth 20000 in
theorem gL_apply_X3_apply : GoodIn wsL_apply (wsV RL 27 RX3 yX3_apply wsX3_apply) := goodIn_app (goodIn_r _ [3, 4, 5, 6] (by rfl) (by rfl)) ggL_apply_X3_apply
set_option maxRecDepth 20000 in
theorem ggL_payBack_X3_payBack : GoodIn wsL_payBack wsX3_payBack := goodIn_ca (goodIn_ca (goodIn_r _ [7, 8, 9, 10, 11, 12, 13, 14, 6, 15, 16, 17, 18, 19, 20, 21, 22, 23, 24, 25, 26, 27, 28, 29, 30, 31, 32, 33, 34, 35, 36, 37, 38, 39, 40, 41, 42, 43] (by rfl) (by rfl)) (goodIn_sub (fun _ h => List.mem_cons_of_mem _ (List.mem_append_left _ (List.mem_append_right _ h))) (by rfl))) (goodIn_sub (fun _ h => List.mem_cons_of_mem _ (List.mem_append_right _ h)) (by rfl))
set_option maxRecDepth 20000 in
theorem gL_payBack_X3_payBack : GoodIn wsL_payBack (wsV RL 31 RX3 yX3_payBack wsX3_payBack) := goodIn_app (goodIn_r _ [3, 4, 5, 6] (by rfl) (by rfl)) ggL_payBack_X3_payBack
set_option maxRecDepth 20000 in
theorem ggL_bounce_X3_bounce : GoodIn wsL_bounce wsX3_bounce := goodIn_ca (goodIn_ca (goodIn_r _ [7, 8, 9, 10, 11, 12, 13, 14, 15, 16, 6, 17, 18, 19, 20, 21, 22, 23, 24, 25, 26, 27, 28, 29, 30, 31, 32, 33, 34, 35, 36, 37, 38, 39, 40, 41, 42, 43, 44, 45, 46, 47, 48, 49, 50, 51, 52, 53, 54, 55, 56, 57, 58, 59, 60, 61, 62, 63, 64, 65, 66, 67, 68, 69, 70, 71, 72, 73, 74, 75, 76, 77, 78, 79, 80, 81, 82, 83, 84, 85, 86, 87, 88, 89, 90] (by rfl) (by rfl)) (goodIn_sub (fun _ h => List.mem_cons_of_mem _ (List.mem_append_left _ (List.mem_append_right _ h))) (by rfl))) (goodIn_sub (fun _ h => List.mem_cons_of_mem _ (List.mem_append_right _ h)) (by rfl))
set_option maxRecDepth 20000 in
theorem gL_bounce_X3_bounce : GoodIn wsL_bounce (wsV RL 34 RX3 yX3_bounce wsX3_bounce) := goodIn_app (goodIn_r _ [3, 4, 5, 6] (by rfl) (by rfl)) ggL_bounce_X3_bounce
set_option maxRecDepth 20000 in
theorem ggL_settle_X3_settle : GoodIn wsL_settle wsX3_settle := goodIn_ca (goodIn_ca (goodIn_r _ [7, 8, 9, 10, 11, 12, 13, 14, 6, 15, 16, 17, 18, 19, 20, 21, 22, 23, 24, 25, 26, 27, 28, 29, 30, 31, 32, 33, 34, 35, 36, 37, 38, 39, 40, 41, 42] (by rfl) (by rfl)) (goodIn_sub (fun _ h => List.mem_cons_of_mem _ (List.mem_append_left _ (List.mem_append_right _ h))) (by rfl))) (goodIn_sub (fun _ h => List.mem_cons_of_mem _ (List.mem_append_right _ h)) (by rfl))
set_option maxRecDepth 20000 in
theorem gL_settle_X3_settle : GoodIn wsL_settle (wsV RL 37 RX3 yX3_settle wsX3_settle) := goodIn_app (goodIn_r _ [3, 4, 5, 6] (by rfl) (by rfl)) ggL_settle_X3_settle
set_option maxRecDepth 20000 in
theorem ggL_advance_X3_advance : GoodIn wsL_advance wsX3_advance := goodIn_ca (goodIn_r _ [6, 7, 8, 9, 5, 10, 11, 12, 13, 14, 15, 16] (by rfl) (by rfl)) (goodIn_sub (fun _ h => List.mem_cons_of_mem _ (List.mem_append_right _ h)) (by rfl))
set_option maxRecDepth 20000 in
theorem gL_advance_X3_advance : GoodIn wsL_advance (wsV RL 41 RX3 yX3_advance wsX3_advance) := goodIn_app (goodIn_r _ [2, 3, 4, 5] (by rfl) (by rfl)) ggL_advance_X3_advance
set_option maxRecDepth 20000 in
theorem ggL_open_X3_open : GoodIn wsL_open wsX3_open := goodIn_ca (goodIn_r _ [6, 7, 8, 9, 10, 5, 11, 12, 13, 14, 15, 16, 17, 18, 19, 20, 21, 22, 23, 24, 25, 26, 27, 28, 29, 30, 31, 32, 33, 34, 35, 36, 37, 38, 39, 40] (by rfl) (by rfl)) (goodIn_sub (fun _ h => List.mem_cons_of_mem _ (List.mem_append_right _ h)) (by rfl))
set_option maxRecDepth 20000 in
theorem gL_open_X3_open : GoodIn wsL_open (wsV RL 44 RX3 yX3_open wsX3_open) := goodIn_app (goodIn_r _ [2, 3, 4, 5] (by rfl) (by rfl)) ggL_open_X3_open
set_option maxRecDepth 20000 in
theorem ggL_due_X3_due : GoodIn wsL_due wsX3_due := goodIn_ca (goodIn_r _ [6, 7, 8, 9, 10, 11, 5, 12, 13, 14, 15, 16, 17, 18, 19, 20, 21, 22, 23, 24, 25, 26, 27, 28, 29, 30, 31, 32, 33, 34, 35, 36, 37, 38, 39, 40, 41, 42, 43, 44, 45, 46, 47, 48, 49, 50, 51] (by rfl) (by rfl)) (goodIn_sub (fun _ h => List.mem_cons_of_mem _ (List.mem_append_right _ h)) (by rfl))
set_option maxRecDepth 20000 in
theorem gL_due_X3_due : GoodIn wsL_due (wsV RL 47 RX3 yX3_due wsX3_due) := goodIn_app (goodIn_r _ [2, 3, 4, 5] (by rfl) (by rfl)) ggL_due_X3_due
set_option maxRecDepth 20000 in
theorem ggL_paid_X3_paid : GoodIn wsL_paid wsX3_paid := goodIn_ca (goodIn_r _ [6, 7, 8, 9, 10, 11, 5, 12, 13, 14, 15, 16, 17, 18, 19, 20, 21, 22, 23, 24, 25, 26, 27, 28, 29, 30, 31] (by rfl) (by rfl)) (goodIn_sub (fun _ h => List.mem_cons_of_mem _ (List.mem_append_right _ h)) (by rfl))
set_option maxRecDepth 20000 in
theorem gL_paid_X3_paid : GoodIn wsL_paid (wsV RL 50 RX3 yX3_paid wsX3_paid) := goodIn_app (goodIn_r _ [2, 3, 4, 5] (by rfl) (by rfl)) ggL_paid_X3_paid
set_option maxRecDepth 20000 in
theorem ggL_taken_X3_taken : GoodIn wsL_taken wsX3_taken := goodIn_ca (goodIn_r _ [6, 7, 8, 9, 10, 11, 5, 12, 13, 14, 15, 16, 17, 18, 19, 20, 21, 22, 23, 24, 25, 26, 27, 28, 29, 30, 31] (by rfl) (by rfl)) (goodIn_sub (fun _ h => List.mem_cons_of_mem _ (List.mem_append_right _ h)) (by rfl))
set_option maxRecDepth 20000 in
theorem gL_taken_X3_taken : GoodIn wsL_taken (wsV RL 53 RX3 yX3_taken wsX3_taken) := goodIn_app (goodIn_r _ [2, 3, 4, 5] (by rfl) (by rfl)) ggL_taken_X3_taken
set_option maxRecDepth 20000 in
theorem ggL_disputed_X3_disputed : GoodIn wsL_disputed wsX3_disputed := goodIn_ca (goodIn_r _ [6, 7, 8, 9, 10, 11, 5, 12, 13, 14, 15, 16, 17, 18, 19, 20, 21, 22, 23, 24, 25, 26, 27, 28, 29, 30, 31] (by rfl) (by rfl)) (goodIn_sub (fun _ h => List.mem_cons_of_mem _ (List.mem_append_right _ h)) (by rfl))
set_option maxRecDepth 20000 in
theorem gL_disputed_X3_disputed : GoodIn wsL_disputed (wsV RL 56 RX3 yX3_disputed wsX3_disputed) := goodIn_app (goodIn_r _ [2, 3, 4, 5] (by rfl) (by rfl)) ggL_disputed_X3_disputed
set_option maxRecDepth 20000 in
theorem ggL_writtenOff_X3_writtenOff : GoodIn wsL_writtenOff wsX3_writtenOff := goodIn_ca (goodIn_r _ [6, 7, 8, 9, 10, 11, 5, 12, 13, 14, 15, 16, 17, 18, 19, 20, 21, 22, 23, 24, 25, 26, 27, 28, 29, 30, 31] (by rfl) (by rfl)) (goodIn_sub (fun _ h => List.mem_cons_of_mem _ (List.mem_append_right _ h)) (by rfl))
set_option maxRecDepth 20000 in
theorem gL_writtenOff_X3_writtenOff : GoodIn wsL_writtenOff (wsV RL 59 RX3 yX3_writtenOff wsX3_writtenOff) := goodIn_app (goodIn_r _ [2, 3, 4, 5] (by rfl) (by rfl)) ggL_writtenOff_X3_writtenOff
set_option maxRecDepth 20000 in
theorem ggL_openOf_X3_openOf : GoodIn wsL_openOf wsX3_openOf := goodIn_ca (goodIn_r _ [6, 7, 8, 9, 10, 11, 5, 12, 13, 14, 15, 16, 17, 18, 19, 20, 21, 22, 23, 24, 25, 26, 27, 28, 29, 30, 31, 32, 33, 34, 35, 36, 37, 38, 39, 40] (by rfl) (by rfl)) (goodIn_sub (fun _ h => List.mem_cons_of_mem _ (List.mem_append_right _ h)) (by rfl))
set_option maxRecDepth 20000 in
theorem gL_openOf_X3_openOf : GoodIn wsL_openOf (wsV RL 62 RX3 yX3_openOf wsX3_openOf) := goodIn_app (goodIn_r _ [2, 3, 4, 5] (by rfl) (by rfl)) ggL_openOf_X3_openOf
set_option maxRecDepth 20000 in
theorem ggL_setFor_X3_setFor : GoodIn wsL_setFor wsX3_setFor := goodIn_ca (goodIn_ca (goodIn_r _ [7, 8, 9, 10, 11, 12, 13, 14, 15, 6, 16, 17, 18, 19, 20, 21, 22, 23, 24, 25, 26, 27, 28, 29, 30, 31, 32, 33, 34, 35, 36, 37, 38, 39, 40, 41, 42, 43, 44, 45, 46, 47, 48, 49, 50, 51, 52, 53, 54, 55, 56, 57, 58, 59, 60, 61, 62, 63, 64, 65, 66, 67, 68, 69, 70, 71, 72, 73, 74, 75, 76, 77, 78, 79, 80, 81, 82, 83, 84, 85, 86, 87, 88, 89, 90, 91, 92, 93, 94, 95, 96, 97, 98, 99, 100, 101] (by rfl) (by rfl)) (goodIn_sub (fun _ h => List.mem_cons_of_mem _ (List.mem_append_left _ (List.mem_append_right _ h))) (by rfl))) (goodIn_sub (fun _ h => List.mem_cons_of_mem _ (List.mem_append_right _ h)) (by rfl))
set_option maxRecDepth 20000 in
theorem gL_setFor_X3_setFor : GoodIn wsL_setFor (wsV RL 65 RX3 yX3_setFor wsX3_setFor) := goodIn_app (goodIn_r _ [3, 4, 5, 6] (by rfl) (by rfl)) ggL_setFor_X3_setFor
set_option maxRecDepth 20000 in
theorem ggL_customerOf_X3_customerOf : GoodIn wsL_customerOf wsX3_customerOf := goodIn_ca (goodIn_r _ [6, 7, 8, 9, 10, 11, 5, 12, 13, 14, 15, 16, 17, 18, 19, 20, 21, 22, 23, 24, 25, 26, 27, 28] (by rfl) (by rfl)) (goodIn_sub (fun _ h => List.mem_cons_of_mem _ (List.mem_append_right _ h)) (by rfl))
set_option maxRecDepth 20000 in
theorem gL_customerOf_X3_customerOf : GoodIn wsL_customerOf (wsV RL 68 RX3 yX3_customerOf wsX3_customerOf) := goodIn_app (goodIn_r _ [2, 3, 4, 5] (by rfl) (by rfl)) ggL_customerOf_X3_customerOf
set_option maxRecDepth 20000 in
theorem ggL_appliedTo_X3_appliedTo : GoodIn wsL_appliedTo wsX3_appliedTo := goodIn_ca (goodIn_r _ [6, 7, 8, 9, 10, 5, 11, 12, 13, 14, 15, 16, 17, 18, 19, 20, 21, 22, 23, 24, 25, 26, 27, 28, 29, 30, 31, 32, 33, 34, 35, 36, 37, 38, 39, 40, 41, 42, 43, 44, 45, 46, 47, 48, 49, 50, 51, 52, 53, 54] (by rfl) (by rfl)) (goodIn_sub (fun _ h => List.mem_cons_of_mem _ (List.mem_append_right _ h)) (by rfl))
set_option maxRecDepth 20000 in
theorem gL_appliedTo_X3_appliedTo : GoodIn wsL_appliedTo (wsV RL 71 RX3 yX3_appliedTo wsX3_appliedTo) := goodIn_app (goodIn_r _ [2, 3, 4, 5] (by rfl) (by rfl)) ggL_appliedTo_X3_appliedTo
set_option maxRecDepth 20000 in
theorem ggL_unapplied_X3_unapplied : GoodIn wsL_unapplied wsX3_unapplied := goodIn_ca (goodIn_r _ [6, 7, 8, 9, 10, 11, 5, 12, 13, 14, 15, 16, 17, 18, 19, 20, 21, 22, 23, 24, 25, 26, 27, 28] (by rfl) (by rfl)) (goodIn_sub (fun _ h => List.mem_cons_of_mem _ (List.mem_append_right _ h)) (by rfl))
set_option maxRecDepth 20000 in
theorem gL_unapplied_X3_unapplied : GoodIn wsL_unapplied (wsV RL 74 RX3 yX3_unapplied wsX3_unapplied) := goodIn_app (goodIn_r _ [2, 3, 4, 5] (by rfl) (by rfl)) ggL_unapplied_X3_unapplied
set_option maxRecDepth 20000 in
theorem ggL_hasBounced_X3_hasBounced : GoodIn wsL_hasBounced wsX3_hasBounced := goodIn_ca (goodIn_r _ [6, 7, 8, 9, 10, 11, 5, 12, 13, 14, 15, 16, 17, 18, 19, 20, 21, 22, 23, 24, 25, 26, 27, 28] (by rfl) (by rfl)) (goodIn_sub (fun _ h => List.mem_cons_of_mem _ (List.mem_append_right _ h)) (by rfl))
set_option maxRecDepth 20000 in
theorem gL_hasBounced_X3_hasBounced : GoodIn wsL_hasBounced (wsV RL 77 RX3 yX3_hasBounced wsX3_hasBounced) := goodIn_app (goodIn_r _ [2, 3, 4, 5] (by rfl) (by rfl)) ggL_hasBounced_X3_hasBounced
set_option maxRecDepth 20000 in
theorem ggL_law_X3_init : GoodIn wsL_law wsX3_init := goodIn_r _ [9, 10, 11, 12, 13, 14, 15, 16, 17, 18, 19, 20, 21, 22, 23, 24, 25, 26, 27, 28, 29, 30, 31, 32, 33, 34, 35, 36, 37, 38, 39, 40, 41, 42, 43, 44, 45, 46, 47, 48, 49, 50, 51, 52, 53, 54, 55, 56, 57, 58, 663, 664, 665, 666, 667, 668, 669, 670, 671, 672, 673, 674, 635, 636, 637, 638, 675, 676, 677, 678, 679, 680, 681, 682, 683, 684, 685, 686, 687] (by rfl) (by rfl)
set_option maxRecDepth 20000 in
theorem ggL_law_X4_init : GoodIn wsL_law wsX4_init := goodIn_r _ [61, 62, 11, 12, 29, 63, 64, 65, 66, 67, 68, 69, 70, 71, 72, 73, 74, 75, 76, 77, 78, 49, 79, 80, 81, 82, 639, 640, 641, 642, 643, 644, 645, 646, 647, 648, 649, 650, 651, 652, 653, 654, 655, 656, 657, 658, 659, 660, 661, 662] (by rfl) (by rfl)
set_option maxRecDepth 20000 in
theorem ggL_law_L_bill : GoodIn wsL_law wsL_bill := goodIn_ca (goodIn_ca (goodIn_ca (goodIn_r _ [86, 87, 88, 89, 90, 91, 92, 2, 93, 94, 95, 96, 16, 97, 25, 98, 99, 100, 101, 102, 103, 104, 105, 106, 107, 108, 109, 110, 111, 112, 113, 114, 15, 115, 116, 30, 31, 32, 33, 34, 37, 39, 635, 636, 637, 638, 663, 664, 665, 666, 667, 668, 669, 670, 671, 672, 673, 674] (by rfl) (by rfl)) (goodIn_sub (fun _ h => List.mem_append_left _ (List.mem_append_left _ (List.mem_append_right _ h))) (by rfl))) (goodIn_sub (fun _ h => List.mem_append_left _ (List.mem_append_right _ h)) (by rfl))) (goodIn_sub (fun _ h => List.mem_append_right _ h) (by rfl))
set_option maxRecDepth 20000 in
theorem gL_law_L_bill : GoodIn wsL_law (va_wsS RL 85 yL_bill wsL_bill) := goodIn_app (goodIn_r _ [83, 84, 85] (by rfl) (by rfl)) ggL_law_L_bill
set_option maxRecDepth 20000 in
theorem ggL_law_X4_bill : GoodIn wsL_law wsX4_bill := goodIn_r _ [120, 121, 122, 63, 64, 65, 66, 123, 67, 68, 71, 73, 124, 125, 5, 126, 127, 128, 129, 130, 131, 132, 133, 134, 639, 640, 641, 642, 643, 644, 645, 646, 647, 648, 649, 650, 651, 652, 653, 654, 655, 656, 657, 658, 659, 660, 661, 662] (by rfl) (by rfl)
set_option maxRecDepth 20000 in
theorem gL_law_X4_bill : GoodIn wsL_law (wsV RL 90 RX4 yX4_bill wsX4_bill) := goodIn_app (goodIn_r _ [117, 118, 119, 5] (by rfl) (by rfl)) ggL_law_X4_bill
set_option maxRecDepth 20000 in
theorem ggL_law_X4_thrown : GoodIn wsL_law wsX4_thrown := goodIn_r _ [138, 134, 639, 640, 641, 642, 643, 644, 645, 646, 647, 648, 649, 650, 651, 652, 653, 654, 655, 656, 657, 658, 659, 660, 661, 662] (by rfl) (by rfl)
set_option maxRecDepth 20000 in
theorem gL_law_X4_thrown : GoodIn wsL_law (wsV RL 91 RX4 yX4_thrown wsX4_thrown) := goodIn_app (goodIn_r _ [135, 136, 137, 5] (by rfl) (by rfl)) ggL_law_X4_thrown
set_option maxRecDepth 20000 in
theorem ggL_law_L_receive : GoodIn wsL_law wsL_receive := goodIn_ca (goodIn_ca (goodIn_ca (goodIn_r _ [141, 87, 88, 89, 142, 143, 144, 2, 145, 94, 95, 96, 20, 146, 98, 99, 100, 101, 102, 103, 104, 105, 106, 107, 147, 148, 149, 19, 150, 151, 44, 45, 47, 152, 153, 154, 155, 156, 16, 97, 157, 158, 159, 160, 161, 15, 162, 116, 32, 30, 163, 164, 165, 166, 31, 35, 36, 38, 40, 167, 168, 169, 170, 171, 172, 173, 174, 25, 175, 176, 177, 178, 179, 33, 180, 181, 182, 183, 34, 184, 185, 186, 187, 37, 188, 189, 190, 191, 51, 52, 46, 192, 193, 194, 195, 196, 197, 198, 39, 199, 200, 201, 202, 203, 204, 205, 206, 24, 207, 208, 209, 210, 211, 212, 213, 214, 23, 215, 216, 58, 217, 218, 219, 220, 56, 57, 221, 222, 223, 224, 225, 226, 227, 228, 229, 230, 231, 232, 233, 234, 235, 236, 237, 238, 239, 240, 241, 242, 243, 244, 635, 636, 637, 638, 675, 676, 677, 678, 679, 680, 681, 682, 683, 663, 664, 665, 666, 667, 668, 669, 670, 671, 672, 673, 674, 684, 685, 686, 687] (by rfl) (by rfl)) (goodIn_sub (fun _ h => List.mem_append_left _ (List.mem_append_left _ (List.mem_append_right _ h))) (by rfl))) (goodIn_sub (fun _ h => List.mem_append_left _ (List.mem_append_right _ h)) (by rfl))) (goodIn_sub (fun _ h => List.mem_append_right _ h) (by rfl))
set_option maxRecDepth 20000 in
theorem gL_law_L_receive : GoodIn wsL_law (va_wsS RL 95 yL_receive wsL_receive) := goodIn_app (goodIn_r _ [139, 140, 85] (by rfl) (by rfl)) ggL_law_L_receive
set_option maxRecDepth 20000 in
theorem ggL_law_X4_receive : GoodIn wsL_law wsX4_receive := goodIn_r _ [248, 121, 249, 75, 76, 77, 124, 125, 5, 126, 127, 128, 129, 130, 131, 132, 133, 134, 250, 251, 252, 253, 122, 65, 63, 254, 255, 256, 257, 64, 69, 70, 72, 74, 258, 259, 260, 261, 71, 80, 81, 262, 263, 264, 265, 266, 267, 268, 269, 123, 66, 68, 67, 270, 271, 272, 273, 274, 73, 275, 276, 277, 278, 82, 279, 280, 281, 282, 283, 284, 285, 286, 287, 288, 289, 290, 639, 640, 641, 642, 643, 644, 645, 646, 647, 648, 649, 650, 651, 652, 653, 654, 655, 656, 657, 658, 659, 660, 661, 662] (by rfl) (by rfl)
set_option maxRecDepth 20000 in
theorem gL_law_X4_receive : GoodIn wsL_law (wsV RL 98 RX4 yX4_receive wsX4_receive) := goodIn_app (goodIn_r _ [245, 246, 247, 5] (by rfl) (by rfl)) ggL_law_X4_receive
set_option maxRecDepth 20000 in
theorem ggL_law_L_assign : GoodIn wsL_law wsL_assign := goodIn_ca (goodIn_ca (goodIn_r _ [293, 87, 89, 294, 295, 296, 2, 297, 94, 95, 20, 156, 157, 298, 299, 300, 301, 101, 102, 146, 98, 99, 100, 302, 303, 304, 305, 306, 199, 200, 201, 202, 203, 204, 205, 206, 24, 207, 16, 97, 208, 209, 210, 211, 25, 212, 213, 214, 23, 215, 216, 58, 167, 168, 169, 15, 170, 30, 163, 164, 165, 166, 31, 35, 36, 38, 40, 176, 177, 178, 179, 33, 180, 181, 182, 183, 34, 217, 218, 219, 220, 56, 57, 221, 222, 223, 224, 225, 226, 227, 228, 229, 230, 231, 232, 233, 234, 235, 236, 237, 238, 239, 240, 171, 172, 173, 174, 175, 184, 185, 186, 187, 37, 188, 189, 190, 19, 191, 51, 52, 46, 47, 192, 193, 194, 241, 242, 243, 244, 635, 636, 637, 638, 675, 676, 677, 678, 679, 680, 681, 682, 683, 684, 685, 686, 687, 663, 664, 665, 666, 667, 668, 669, 670, 671, 672, 673, 674] (by rfl) (by rfl)) (goodIn_sub (fun _ h => List.mem_append_left _ (List.mem_append_left _ (List.mem_append_right _ h))) (by rfl))) (goodIn_sub (fun _ h => List.mem_append_left _ (List.mem_append_right _ h)) (by rfl))
set_option maxRecDepth 20000 in
theorem gL_law_L_assign : GoodIn wsL_law (va_wsS RL 99 yL_assign wsL_assign) := goodIn_app (goodIn_r _ [291, 292, 85] (by rfl) (by rfl)) ggL_law_L_assign
set_option maxRecDepth 20000 in
theorem ggL_law_X4_assign : GoodIn wsL_law wsX4_assign := goodIn_r _ [310, 76, 79, 77, 311, 312, 313, 5, 314, 249, 124, 125, 126, 127, 128, 129, 130, 131, 132, 133, 134, 275, 276, 277, 278, 82, 122, 66, 63, 279, 280, 281, 282, 283, 284, 285, 286, 287, 288, 289, 290, 254, 255, 256, 257, 64, 69, 70, 72, 74, 262, 263, 264, 265, 266, 267, 268, 269, 123, 68, 67, 270, 258, 259, 260, 261, 71, 80, 81, 639, 640, 641, 642, 643, 644, 645, 646, 647, 648, 649, 650, 651, 652, 653, 654, 655, 656, 657, 658, 659, 660, 661, 662] (by rfl) (by rfl)
set_option maxRecDepth 20000 in
theorem gL_law_X4_assign : GoodIn wsL_law (wsV RL 102 RX4 yX4_assign wsX4_assign) := goodIn_app (goodIn_r _ [307, 308, 309, 5] (by rfl) (by rfl)) ggL_law_X4_assign
set_option maxRecDepth 20000 in
theorem ggL_law_L_apply : GoodIn wsL_law wsL_apply := goodIn_ca (goodIn_ca (goodIn_r _ [317, 87, 89, 318, 319, 320, 2, 321, 94, 95, 20, 156, 157, 298, 299, 300, 301, 101, 102, 146, 302, 303, 304, 305, 306, 199, 200, 201, 202, 203, 204, 205, 206, 24, 207, 16, 97, 208, 209, 210, 211, 25, 212, 213, 214, 23, 215, 216, 58, 167, 168, 169, 15, 170, 30, 163, 164, 165, 166, 31, 35, 36, 38, 40, 176, 177, 178, 179, 33, 180, 181, 182, 183, 34, 217, 218, 219, 220, 56, 57, 221, 222, 223, 224, 225, 226, 227, 228, 229, 230, 231, 232, 233, 234, 235, 236, 237, 238, 239, 240, 171, 172, 173, 174, 175, 184, 185, 186, 187, 37, 188, 189, 190, 19, 191, 51, 52, 46, 47, 192, 193, 194, 241, 242, 243, 244, 635, 636, 637, 638, 675, 676, 677, 678, 679, 680, 681, 682, 683, 684, 685, 686, 687, 663, 664, 665, 666, 667, 668, 669, 670, 671, 672, 673, 674] (by rfl) (by rfl)) (goodIn_sub (fun _ h => List.mem_append_left _ (List.mem_append_left _ (List.mem_append_right _ h))) (by rfl))) (goodIn_sub (fun _ h => List.mem_append_left _ (List.mem_append_right _ h)) (by rfl))
set_option maxRecDepth 20000 in
theorem gL_law_L_apply : GoodIn wsL_law (va_wsS RL 103 yL_apply wsL_apply) := goodIn_app (goodIn_r _ [315, 316, 85] (by rfl) (by rfl)) ggL_law_L_apply
set_option maxRecDepth 20000 in
theorem ggL_law_X4_apply : GoodIn wsL_law wsX4_apply := goodIn_r _ [325, 76, 79, 77, 311, 312, 313, 5, 314, 249, 124, 125, 126, 130, 131, 132, 133, 134, 275, 276, 277, 278, 82, 122, 66, 63, 279, 280, 281, 282, 283, 284, 285, 286, 287, 288, 289, 290, 254, 255, 256, 257, 64, 69, 70, 72, 74, 262, 263, 264, 265, 266, 267, 268, 269, 123, 68, 67, 270, 258, 259, 260, 261, 71, 80, 81, 639, 640, 641, 642, 643, 644, 645, 646, 647, 648, 649, 650, 651, 652, 653, 654, 655, 656, 657, 658, 659, 660, 661, 662] (by rfl) (by rfl)
set_option maxRecDepth 20000 in
theorem gL_law_X4_apply : GoodIn wsL_law (wsV RL 106 RX4 yX4_apply wsX4_apply) := goodIn_app (goodIn_r _ [322, 323, 324, 5] (by rfl) (by rfl)) ggL_law_X4_apply
set_option maxRecDepth 20000 in
theorem ggL_law_L_payBack : GoodIn wsL_law wsL_payBack := goodIn_ca (goodIn_ca (goodIn_r _ [328, 87, 89, 329, 330, 331, 2, 332, 94, 95, 20, 157, 298, 299, 300, 301, 101, 102, 146, 302, 303, 304, 305, 306, 333, 334, 335, 19, 336, 47, 48, 635, 636, 637, 638, 675, 676, 677, 678, 679, 680, 681, 682, 683] (by rfl) (by rfl)) (goodIn_sub (fun _ h => List.mem_append_left _ (List.mem_append_left _ (List.mem_append_right _ h))) (by rfl))) (goodIn_sub (fun _ h => List.mem_append_left _ (List.mem_append_right _ h)) (by rfl))
set_option maxRecDepth 20000 in
theorem gL_law_L_payBack : GoodIn wsL_law (va_wsS RL 107 yL_payBack wsL_payBack) := goodIn_app (goodIn_r _ [326, 327, 85] (by rfl) (by rfl)) ggL_law_L_payBack
set_option maxRecDepth 20000 in
theorem ggL_law_X4_payBack : GoodIn wsL_law wsX4_payBack := goodIn_r _ [340, 79, 77, 78, 311, 312, 313, 5, 314, 249, 124, 125, 126, 130, 131, 132, 133, 134, 639, 640, 641, 642, 643, 644, 645, 646, 647, 648, 649, 650, 651, 652, 653, 654, 655, 656, 657, 658, 659, 660, 661, 662] (by rfl) (by rfl)
set_option maxRecDepth 20000 in
theorem gL_law_X4_payBack : GoodIn wsL_law (wsV RL 109 RX4 yX4_payBack wsX4_payBack) := goodIn_app (goodIn_r _ [337, 338, 339, 5] (by rfl) (by rfl)) ggL_law_X4_payBack
set_option maxRecDepth 20000 in
theorem ggL_law_L_bounce : GoodIn wsL_law wsL_bounce := goodIn_ca (goodIn_ca (goodIn_r _ [343, 87, 89, 344, 345, 346, 2, 347, 94, 95, 20, 348, 16, 97, 298, 299, 300, 301, 101, 102, 146, 302, 303, 304, 305, 306, 349, 350, 351, 19, 352, 52, 192, 193, 194, 353, 354, 355, 356, 51, 357, 358, 359, 15, 360, 35, 37, 36, 39, 361, 362, 363, 364, 38, 40, 365, 366, 367, 368, 46, 369, 370, 371, 372, 47, 50, 635, 636, 637, 638, 675, 676, 677, 678, 679, 680, 681, 682, 683, 663, 664, 665, 666, 667, 668, 669, 670, 671, 672, 673, 674] (by rfl) (by rfl)) (goodIn_sub (fun _ h => List.mem_append_left _ (List.mem_append_left _ (List.mem_append_right _ h))) (by rfl))) (goodIn_sub (fun _ h => List.mem_append_left _ (List.mem_append_right _ h)) (by rfl))
set_option maxRecDepth 20000 in
theorem gL_law_L_bounce : GoodIn wsL_law (va_wsS RL 110 yL_bounce wsL_bounce) := goodIn_app (goodIn_r _ [341, 342, 85] (by rfl) (by rfl)) ggL_law_L_bounce
set_option maxRecDepth 20000 in
theorem ggL_law_X4_bounce : GoodIn wsL_law wsX4_bounce := goodIn_r _ [376, 79, 78, 122, 81, 69, 80, 71, 70, 73, 72, 77, 311, 312, 313, 5, 314, 249, 124, 125, 126, 130, 131, 132, 133, 134, 639, 640, 641, 642, 643, 644, 645, 646, 647, 648, 649, 650, 651, 652, 653, 654, 655, 656, 657, 658, 659, 660, 661, 662] (by rfl) (by rfl)
set_option maxRecDepth 20000 in
theorem gL_law_X4_bounce : GoodIn wsL_law (wsV RL 112 RX4 yX4_bounce wsX4_bounce) := goodIn_app (goodIn_r _ [373, 374, 375, 5] (by rfl) (by rfl)) ggL_law_X4_bounce
set_option maxRecDepth 20000 in
theorem ggL_law_L_settle : GoodIn wsL_law wsL_settle := goodIn_ca (goodIn_ca (goodIn_r _ [379, 87, 89, 380, 381, 382, 2, 383, 94, 95, 16, 384, 385, 386, 387, 388, 101, 102, 97, 389, 362, 363, 15, 364, 38, 40, 39, 635, 636, 637, 638, 663, 664, 665, 666, 667, 668, 669, 670, 671, 672, 673, 674] (by rfl) (by rfl)) (goodIn_sub (fun _ h => List.mem_append_left _ (List.mem_append_left _ (List.mem_append_right _ h))) (by rfl))) (goodIn_sub (fun _ h => List.mem_append_left _ (List.mem_append_right _ h)) (by rfl))
set_option maxRecDepth 20000 in
theorem gL_law_L_settle : GoodIn wsL_law (va_wsS RL 113 yL_settle wsL_settle) := goodIn_app (goodIn_r _ [377, 378, 85] (by rfl) (by rfl)) ggL_law_L_settle
set_option maxRecDepth 20000 in
theorem ggL_law_X4_settle : GoodIn wsL_law wsX4_settle := goodIn_r _ [393, 72, 74, 73, 287, 288, 289, 5, 290, 122, 124, 125, 126, 130, 131, 132, 133, 134, 639, 640, 641, 642, 643, 644, 645, 646, 647, 648, 649, 650, 651, 652, 653, 654, 655, 656, 657, 658, 659, 660, 661, 662] (by rfl) (by rfl)
set_option maxRecDepth 20000 in
theorem gL_law_X4_settle : GoodIn wsL_law (wsV RL 116 RX4 yX4_settle wsX4_settle) := goodIn_app (goodIn_r _ [390, 391, 392, 5] (by rfl) (by rfl)) ggL_law_X4_settle
set_option maxRecDepth 20000 in
theorem ggL_law_L_advance : GoodIn wsL_law wsL_advance := goodIn_ca (goodIn_r _ [396, 88, 397, 398, 399, 2, 400, 25, 103, 104, 105, 106, 107, 635, 636, 637, 638] (by rfl) (by rfl)) (goodIn_sub (fun _ h => List.mem_append_right _ h) (by rfl))
set_option maxRecDepth 20000 in
theorem gL_law_L_advance : GoodIn wsL_law (va_wsS RL 117 yL_advance wsL_advance) := goodIn_app (goodIn_r _ [394, 395, 85] (by rfl) (by rfl)) ggL_law_L_advance
set_option maxRecDepth 20000 in
theorem ggL_law_X4_advance : GoodIn wsL_law wsX4_advance := goodIn_r _ [404, 123, 124, 125, 5, 126, 130, 131, 132, 133, 134, 639, 640, 641, 642, 643, 644, 645, 646, 647, 648, 649, 650, 651, 652, 653, 654, 655, 656, 657, 658, 659, 660, 661, 662] (by rfl) (by rfl)
set_option maxRecDepth 20000 in
theorem gL_law_X4_advance : GoodIn wsL_law (wsV RL 119 RX4 yX4_advance wsX4_advance) := goodIn_app (goodIn_r _ [401, 402, 403, 5] (by rfl) (by rfl)) ggL_law_X4_advance
set_option maxRecDepth 20000 in
theorem ggL_law_X3_bills : GoodIn wsL_law wsX3_bills := goodIn_r _ [408, 16, 97, 635, 636, 637, 638, 663, 664, 665, 666, 667, 668, 669, 670, 671, 672, 673, 674] (by rfl) (by rfl)
set_option maxRecDepth 20000 in
theorem gL_law_X3_bills : GoodIn wsL_law (wsV RL 120 RX3 yX3_bills wsX3_bills) := goodIn_app (goodIn_r _ [405, 406, 407, 2] (by rfl) (by rfl)) ggL_law_X3_bills
set_option maxRecDepth 20000 in
theorem ggL_law_X4_bills : GoodIn wsL_law wsX4_bills := goodIn_r _ [412, 122, 413, 414, 415, 5, 416, 134, 639, 640, 641, 642, 643, 644, 645, 646, 647, 648, 649, 650, 651, 652, 653, 654, 655, 656, 657, 658, 659, 660, 661, 662] (by rfl) (by rfl)
set_option maxRecDepth 20000 in
theorem gL_law_X4_bills : GoodIn wsL_law (wsV RL 123 RX4 yX4_bills wsX4_bills) := goodIn_app (goodIn_r _ [409, 410, 411, 5] (by rfl) (by rfl)) ggL_law_X4_bills
set_option maxRecDepth 20000 in
theorem ggL_law_L_open : GoodIn wsL_law wsL_open := goodIn_ca (goodIn_r _ [419, 87, 420, 421, 422, 2, 423, 16, 385, 386, 387, 388, 101, 102, 97, 424, 164, 165, 15, 166, 31, 35, 36, 38, 40, 635, 636, 637, 638, 663, 664, 665, 666, 667, 668, 669, 670, 671, 672, 673, 674] (by rfl) (by rfl)) (goodIn_sub (fun _ h => List.mem_append_left _ (List.mem_append_right _ h)) (by rfl))
set_option maxRecDepth 20000 in
theorem gL_law_L_open : GoodIn wsL_law (va_wsS RL 124 yL_open wsL_open) := goodIn_app (goodIn_r _ [417, 418, 85] (by rfl) (by rfl)) ggL_law_L_open
set_option maxRecDepth 20000 in
theorem ggL_law_X4_open : GoodIn wsL_law wsX4_open := goodIn_r _ [428, 429, 430, 431, 5, 432, 287, 288, 289, 290, 122, 124, 125, 126, 130, 131, 132, 133, 134, 254, 255, 256, 257, 64, 69, 70, 72, 74, 639, 640, 641, 642, 643, 644, 645, 646, 647, 648, 649, 650, 651, 652, 653, 654, 655, 656, 657, 658, 659, 660, 661, 662] (by rfl) (by rfl)
set_option maxRecDepth 20000 in
theorem gL_law_X4_open : GoodIn wsL_law (wsV RL 126 RX4 yX4_open wsX4_open) := goodIn_app (goodIn_r _ [425, 426, 427, 5] (by rfl) (by rfl)) ggL_law_X4_open
set_option maxRecDepth 20000 in
theorem ggL_law_L_due : GoodIn wsL_law wsL_due := goodIn_ca (goodIn_r _ [435, 87, 436, 437, 438, 2, 439, 16, 25, 385, 386, 387, 388, 101, 102, 97, 176, 177, 178, 15, 179, 33, 163, 164, 165, 166, 31, 35, 36, 38, 40, 180, 181, 182, 183, 34, 635, 636, 637, 638, 663, 664, 665, 666, 667, 668, 669, 670, 671, 672, 673, 674] (by rfl) (by rfl)) (goodIn_sub (fun _ h => List.mem_append_left _ (List.mem_append_right _ h)) (by rfl))
set_option maxRecDepth 20000 in
theorem gL_law_L_due : GoodIn wsL_law (va_wsS RL 127 yL_due wsL_due) := goodIn_app (goodIn_r _ [433, 434, 85] (by rfl) (by rfl)) ggL_law_L_due
set_option maxRecDepth 20000 in
theorem ggL_law_X4_due : GoodIn wsL_law wsX4_due := goodIn_r _ [443, 429, 430, 431, 5, 432, 287, 288, 289, 290, 122, 124, 125, 126, 130, 131, 132, 133, 134, 262, 263, 264, 265, 254, 255, 256, 257, 64, 69, 70, 72, 74, 266, 267, 268, 269, 123, 66, 68, 67, 270, 639, 640, 641, 642, 643, 644, 645, 646, 647, 648, 649, 650, 651, 652, 653, 654, 655, 656, 657, 658, 659, 660, 661, 662] (by rfl) (by rfl)
set_option maxRecDepth 20000 in
theorem gL_law_X4_due : GoodIn wsL_law (wsV RL 129 RX4 yX4_due wsX4_due) := goodIn_app (goodIn_r _ [440, 441, 442, 5] (by rfl) (by rfl)) ggL_law_X4_due
set_option maxRecDepth 20000 in
theorem ggL_law_L_paid : GoodIn wsL_law wsL_paid := goodIn_ca (goodIn_r _ [446, 87, 447, 448, 449, 2, 450, 16, 175, 385, 386, 387, 388, 101, 102, 97, 635, 636, 637, 638, 663, 664, 665, 666, 667, 668, 669, 670, 671, 672, 673, 674] (by rfl) (by rfl)) (goodIn_sub (fun _ h => List.mem_append_left _ (List.mem_append_right _ h)) (by rfl))
set_option maxRecDepth 20000 in
theorem gL_law_L_paid : GoodIn wsL_law (va_wsS RL 130 yL_paid wsL_paid) := goodIn_app (goodIn_r _ [444, 445, 85] (by rfl) (by rfl)) ggL_law_L_paid
set_option maxRecDepth 20000 in
theorem ggL_law_X4_paid : GoodIn wsL_law wsX4_paid := goodIn_r _ [454, 69, 429, 430, 431, 5, 432, 287, 288, 289, 290, 122, 124, 125, 126, 130, 131, 132, 133, 134, 639, 640, 641, 642, 643, 644, 645, 646, 647, 648, 649, 650, 651, 652, 653, 654, 655, 656, 657, 658, 659, 660, 661, 662] (by rfl) (by rfl)
set_option maxRecDepth 20000 in
theorem gL_law_X4_paid : GoodIn wsL_law (wsV RL 132 RX4 yX4_paid wsX4_paid) := goodIn_app (goodIn_r _ [451, 452, 453, 5] (by rfl) (by rfl)) ggL_law_X4_paid
set_option maxRecDepth 20000 in
theorem ggL_law_L_taken : GoodIn wsL_law wsL_taken := goodIn_ca (goodIn_r _ [457, 87, 458, 459, 460, 2, 461, 16, 462, 385, 386, 387, 388, 101, 102, 97, 635, 636, 637, 638, 663, 664, 665, 666, 667, 668, 669, 670, 671, 672, 673, 674] (by rfl) (by rfl)) (goodIn_sub (fun _ h => List.mem_append_left _ (List.mem_append_right _ h)) (by rfl))
set_option maxRecDepth 20000 in
theorem gL_law_L_taken : GoodIn wsL_law (va_wsS RL 133 yL_taken wsL_taken) := goodIn_app (goodIn_r _ [455, 456, 85] (by rfl) (by rfl)) ggL_law_L_taken
set_option maxRecDepth 20000 in
theorem ggL_law_X4_taken : GoodIn wsL_law wsX4_taken := goodIn_r _ [466, 70, 429, 430, 431, 5, 432, 287, 288, 289, 290, 122, 124, 125, 126, 130, 131, 132, 133, 134, 639, 640, 641, 642, 643, 644, 645, 646, 647, 648, 649, 650, 651, 652, 653, 654, 655, 656, 657, 658, 659, 660, 661, 662] (by rfl) (by rfl)
set_option maxRecDepth 20000 in
theorem gL_law_X4_taken : GoodIn wsL_law (wsV RL 135 RX4 yX4_taken wsX4_taken) := goodIn_app (goodIn_r _ [463, 464, 465, 5] (by rfl) (by rfl)) ggL_law_X4_taken
set_option maxRecDepth 20000 in
theorem ggL_law_L_disputed : GoodIn wsL_law wsL_disputed := goodIn_ca (goodIn_r _ [469, 87, 470, 471, 472, 2, 473, 16, 384, 385, 386, 387, 388, 101, 102, 97, 635, 636, 637, 638, 663, 664, 665, 666, 667, 668, 669, 670, 671, 672, 673, 674] (by rfl) (by rfl)) (goodIn_sub (fun _ h => List.mem_append_left _ (List.mem_append_right _ h)) (by rfl))
set_option maxRecDepth 20000 in
theorem gL_law_L_disputed : GoodIn wsL_law (va_wsS RL 136 yL_disputed wsL_disputed) := goodIn_app (goodIn_r _ [467, 468, 85] (by rfl) (by rfl)) ggL_law_L_disputed
set_option maxRecDepth 20000 in
theorem ggL_law_X4_disputed : GoodIn wsL_law wsX4_disputed := goodIn_r _ [477, 72, 429, 430, 431, 5, 432, 287, 288, 289, 290, 122, 124, 125, 126, 130, 131, 132, 133, 134, 639, 640, 641, 642, 643, 644, 645, 646, 647, 648, 649, 650, 651, 652, 653, 654, 655, 656, 657, 658, 659, 660, 661, 662] (by rfl) (by rfl)
set_option maxRecDepth 20000 in
theorem gL_law_X4_disputed : GoodIn wsL_law (wsV RL 138 RX4 yX4_disputed wsX4_disputed) := goodIn_app (goodIn_r _ [474, 475, 476, 5] (by rfl) (by rfl)) ggL_law_X4_disputed
set_option maxRecDepth 20000 in
theorem ggL_law_L_writtenOff : GoodIn wsL_law wsL_writtenOff := goodIn_ca (goodIn_r _ [480, 87, 481, 482, 483, 2, 484, 16, 485, 385, 386, 387, 388, 101, 102, 97, 635, 636, 637, 638, 663, 664, 665, 666, 667, 668, 669, 670, 671, 672, 673, 674] (by rfl) (by rfl)) (goodIn_sub (fun _ h => List.mem_append_left _ (List.mem_append_right _ h)) (by rfl))
set_option maxRecDepth 20000 in
theorem gL_law_L_writtenOff : GoodIn wsL_law (va_wsS RL 139 yL_writtenOff wsL_writtenOff) := goodIn_app (goodIn_r _ [478, 479, 85] (by rfl) (by rfl)) ggL_law_L_writtenOff
set_option maxRecDepth 20000 in
theorem ggL_law_X4_writtenOff : GoodIn wsL_law wsX4_writtenOff := goodIn_r _ [489, 74, 429, 430, 431, 5, 432, 287, 288, 289, 290, 122, 124, 125, 126, 130, 131, 132, 133, 134, 639, 640, 641, 642, 643, 644, 645, 646, 647, 648, 649, 650, 651, 652, 653, 654, 655, 656, 657, 658, 659, 660, 661, 662] (by rfl) (by rfl)
set_option maxRecDepth 20000 in
theorem gL_law_X4_writtenOff : GoodIn wsL_law (wsV RL 141 RX4 yX4_writtenOff wsX4_writtenOff) := goodIn_app (goodIn_r _ [486, 487, 488, 5] (by rfl) (by rfl)) ggL_law_X4_writtenOff
set_option maxRecDepth 20000 in
theorem ggL_law_L_openOf : GoodIn wsL_law wsL_openOf := goodIn_ca (goodIn_r _ [492, 87, 493, 494, 495, 2, 496, 16, 97, 497, 98, 99, 100, 101, 102, 424, 164, 165, 15, 166, 31, 35, 36, 38, 40, 635, 636, 637, 638, 663, 664, 665, 666, 667, 668, 669, 670, 671, 672, 673, 674] (by rfl) (by rfl)) (goodIn_sub (fun _ h => List.mem_append_left _ (List.mem_append_right _ h)) (by rfl))
set_option maxRecDepth 20000 in
theorem gL_law_L_openOf : GoodIn wsL_law (va_wsS RL 142 yL_openOf wsL_openOf) := goodIn_app (goodIn_r _ [490, 491, 85] (by rfl) (by rfl)) ggL_law_L_openOf
set_option maxRecDepth 20000 in
theorem ggL_law_X4_openOf : GoodIn wsL_law wsX4_openOf := goodIn_r _ [501, 122, 63, 254, 255, 256, 5, 257, 64, 69, 70, 72, 74, 127, 128, 129, 124, 125, 126, 130, 131, 132, 133, 134, 639, 640, 641, 642, 643, 644, 645, 646, 647, 648, 649, 650, 651, 652, 653, 654, 655, 656, 657, 658, 659, 660, 661, 662] (by rfl) (by rfl)
set_option maxRecDepth 20000 in
theorem gL_law_X4_openOf : GoodIn wsL_law (wsV RL 144 RX4 yX4_openOf wsX4_openOf) := goodIn_app (goodIn_r _ [498, 499, 500, 5] (by rfl) (by rfl)) ggL_law_X4_openOf
set_option maxRecDepth 20000 in
theorem ggL_law_L_setFor : GoodIn wsL_law wsL_setFor := goodIn_ca (goodIn_ca (goodIn_r _ [504, 87, 88, 505, 506, 507, 2, 508, 101, 102, 106, 107, 24, 207, 98, 99, 100, 208, 209, 210, 211, 16, 97, 25, 212, 213, 214, 23, 215, 216, 58, 167, 168, 169, 15, 170, 30, 163, 164, 165, 166, 31, 35, 36, 38, 40, 176, 177, 178, 179, 33, 180, 181, 182, 183, 34, 217, 218, 219, 220, 56, 57, 221, 222, 223, 224, 225, 226, 227, 228, 229, 230, 231, 232, 233, 234, 235, 236, 237, 238, 239, 240, 635, 636, 637, 638, 684, 685, 686, 687, 663, 664, 665, 666, 667, 668, 669, 670, 671, 672, 673, 674] (by rfl) (by rfl)) (goodIn_sub (fun _ h => List.mem_append_left _ (List.mem_append_right _ h)) (by rfl))) (goodIn_sub (fun _ h => List.mem_append_right _ h) (by rfl))
set_option maxRecDepth 20000 in
theorem gL_law_L_setFor : GoodIn wsL_law (va_wsS RL 145 yL_setFor wsL_setFor) := goodIn_app (goodIn_r _ [502, 503, 85] (by rfl) (by rfl)) ggL_law_L_setFor
set_option maxRecDepth 20000 in
theorem ggL_law_X4_setFor : GoodIn wsL_law wsX4_setFor := goodIn_r _ [512, 82, 127, 128, 5, 129, 124, 125, 126, 130, 131, 132, 133, 134, 279, 280, 281, 282, 122, 283, 284, 285, 286, 63, 287, 288, 289, 290, 254, 255, 256, 257, 64, 69, 70, 72, 74, 262, 263, 264, 265, 266, 267, 268, 269, 123, 66, 68, 67, 270, 639, 640, 641, 642, 643, 644, 645, 646, 647, 648, 649, 650, 651, 652, 653, 654, 655, 656, 657, 658, 659, 660, 661, 662] (by rfl) (by rfl)
set_option maxRecDepth 20000 in
theorem gL_law_X4_setFor : GoodIn wsL_law (wsV RL 147 RX4 yX4_setFor wsX4_setFor) := goodIn_app (goodIn_r _ [509, 510, 511, 5] (by rfl) (by rfl)) ggL_law_X4_setFor
set_option maxRecDepth 20000 in
theorem ggL_law_X3_receipts : GoodIn wsL_law wsX3_receipts := goodIn_r _ [516, 20, 146, 635, 636, 637, 638, 675, 676, 677, 678, 679, 680, 681, 682, 683] (by rfl) (by rfl)
set_option maxRecDepth 20000 in
theorem gL_law_X3_receipts : GoodIn wsL_law (wsV RL 148 RX3 yX3_receipts wsX3_receipts) := goodIn_app (goodIn_r _ [513, 514, 515, 2] (by rfl) (by rfl)) ggL_law_X3_receipts
set_option maxRecDepth 20000 in
theorem ggL_law_X4_receipts : GoodIn wsL_law wsX4_receipts := goodIn_r _ [520, 249, 413, 414, 415, 5, 416, 134, 639, 640, 641, 642, 643, 644, 645, 646, 647, 648, 649, 650, 651, 652, 653, 654, 655, 656, 657, 658, 659, 660, 661, 662] (by rfl) (by rfl)
set_option maxRecDepth 20000 in
theorem gL_law_X4_receipts : GoodIn wsL_law (wsV RL 151 RX4 yX4_receipts wsX4_receipts) := goodIn_app (goodIn_r _ [517, 518, 519, 5] (by rfl) (by rfl)) ggL_law_X4_receipts
set_option maxRecDepth 20000 in
theorem ggL_law_L_customerOf : GoodIn wsL_law wsL_customerOf := goodIn_ca (goodIn_r _ [523, 87, 524, 525, 526, 2, 527, 20, 156, 298, 299, 300, 301, 101, 102, 146, 635, 636, 637, 638, 675, 676, 677, 678, 679, 680, 681, 682, 683] (by rfl) (by rfl)) (goodIn_sub (fun _ h => List.mem_append_left _ (List.mem_append_right _ h)) (by rfl))
set_option maxRecDepth 20000 in
theorem gL_law_L_customerOf : GoodIn wsL_law (va_wsS RL 152 yL_customerOf wsL_customerOf) := goodIn_app (goodIn_r _ [521, 522, 85] (by rfl) (by rfl)) ggL_law_L_customerOf
set_option maxRecDepth 20000 in
theorem ggL_law_X4_customerOf : GoodIn wsL_law wsX4_customerOf := goodIn_r _ [531, 76, 532, 533, 534, 5, 535, 311, 312, 313, 314, 249, 124, 125, 126, 130, 131, 132, 133, 134, 639, 640, 641, 642, 643, 644, 645, 646, 647, 648, 649, 650, 651, 652, 653, 654, 655, 656, 657, 658, 659, 660, 661, 662] (by rfl) (by rfl)
set_option maxRecDepth 20000 in
theorem gL_law_X4_customerOf : GoodIn wsL_law (wsV RL 154 RX4 yX4_customerOf wsX4_customerOf) := goodIn_app (goodIn_r _ [528, 529, 530, 5] (by rfl) (by rfl)) ggL_law_X4_customerOf
set_option maxRecDepth 20000 in
theorem ggL_law_L_appliedTo : GoodIn wsL_law wsL_appliedTo := goodIn_ca (goodIn_r _ [538, 87, 539, 540, 541, 2, 542, 20, 298, 299, 300, 301, 101, 102, 146, 385, 386, 387, 388, 16, 97, 353, 354, 355, 19, 356, 51, 192, 193, 194, 635, 636, 637, 638, 675, 676, 677, 678, 679, 680, 681, 682, 683, 663, 664, 665, 666, 667, 668, 669, 670, 671, 672, 673, 674] (by rfl) (by rfl)) (goodIn_sub (fun _ h => List.mem_append_left _ (List.mem_append_right _ h)) (by rfl))
set_option maxRecDepth 20000 in
theorem gL_law_L_appliedTo : GoodIn wsL_law (va_wsS RL 155 yL_appliedTo wsL_appliedTo) := goodIn_app (goodIn_r _ [536, 537, 85] (by rfl) (by rfl)) ggL_law_L_appliedTo
set_option maxRecDepth 20000 in
theorem ggL_law_X4_appliedTo : GoodIn wsL_law wsX4_appliedTo := goodIn_r _ [546, 80, 311, 312, 313, 5, 314, 249, 124, 125, 126, 287, 288, 289, 290, 122, 130, 131, 132, 133, 134, 639, 640, 641, 642, 643, 644, 645, 646, 647, 648, 649, 650, 651, 652, 653, 654, 655, 656, 657, 658, 659, 660, 661, 662] (by rfl) (by rfl)
set_option maxRecDepth 20000 in
theorem gL_law_X4_appliedTo : GoodIn wsL_law (wsV RL 157 RX4 yX4_appliedTo wsX4_appliedTo) := goodIn_app (goodIn_r _ [543, 544, 545, 5] (by rfl) (by rfl)) ggL_law_X4_appliedTo
set_option maxRecDepth 20000 in
theorem ggL_law_L_unapplied : GoodIn wsL_law wsL_unapplied := goodIn_ca (goodIn_r _ [549, 87, 550, 551, 552, 2, 553, 20, 157, 298, 299, 300, 301, 101, 102, 146, 635, 636, 637, 638, 675, 676, 677, 678, 679, 680, 681, 682, 683] (by rfl) (by rfl)) (goodIn_sub (fun _ h => List.mem_append_left _ (List.mem_append_right _ h)) (by rfl))
set_option maxRecDepth 20000 in
theorem gL_law_L_unapplied : GoodIn wsL_law (va_wsS RL 158 yL_unapplied wsL_unapplied) := goodIn_app (goodIn_r _ [547, 548, 85] (by rfl) (by rfl)) ggL_law_L_unapplied
set_option maxRecDepth 20000 in
theorem ggL_law_X4_unapplied : GoodIn wsL_law wsX4_unapplied := goodIn_r _ [557, 77, 532, 533, 534, 5, 535, 311, 312, 313, 314, 249, 124, 125, 126, 130, 131, 132, 133, 134, 639, 640, 641, 642, 643, 644, 645, 646, 647, 648, 649, 650, 651, 652, 653, 654, 655, 656, 657, 658, 659, 660, 661, 662] (by rfl) (by rfl)
set_option maxRecDepth 20000 in
theorem gL_law_X4_unapplied : GoodIn wsL_law (wsV RL 160 RX4 yX4_unapplied wsX4_unapplied) := goodIn_app (goodIn_r _ [554, 555, 556, 5] (by rfl) (by rfl)) ggL_law_X4_unapplied
set_option maxRecDepth 20000 in
theorem ggL_law_L_hasBounced : GoodIn wsL_law wsL_hasBounced := goodIn_ca (goodIn_r _ [560, 87, 561, 562, 563, 2, 564, 20, 306, 298, 299, 300, 301, 101, 102, 146, 635, 636, 637, 638, 675, 676, 677, 678, 679, 680, 681, 682, 683] (by rfl) (by rfl)) (goodIn_sub (fun _ h => List.mem_append_left _ (List.mem_append_right _ h)) (by rfl))
set_option maxRecDepth 20000 in
theorem gL_law_L_hasBounced : GoodIn wsL_law (va_wsS RL 161 yL_hasBounced wsL_hasBounced) := goodIn_app (goodIn_r _ [558, 559, 85] (by rfl) (by rfl)) ggL_law_L_hasBounced
set_option maxRecDepth 20000 in
theorem ggL_law_X4_hasBounced : GoodIn wsL_law wsX4_hasBounced := goodIn_r _ [568, 79, 532, 533, 534, 5, 535, 311, 312, 313, 314, 249, 124, 125, 126, 130, 131, 132, 133, 134, 639, 640, 641, 642, 643, 644, 645, 646, 647, 648, 649, 650, 651, 652, 653, 654, 655, 656, 657, 658, 659, 660, 661, 662] (by rfl) (by rfl)
set_option maxRecDepth 20000 in
theorem gL_law_X4_hasBounced : GoodIn wsL_law (wsV RL 163 RX4 yX4_hasBounced wsX4_hasBounced) := goodIn_app (goodIn_r _ [565, 566, 567, 5] (by rfl) (by rfl)) ggL_law_X4_hasBounced
set_option maxRecDepth 20000 in
theorem ggL_law_X3_day : GoodIn wsL_law wsX3_day := goodIn_r _ [572, 25, 635, 636, 637, 638] (by rfl) (by rfl)
set_option maxRecDepth 20000 in
theorem gL_law_X3_day : GoodIn wsL_law (wsV RL 164 RX3 yX3_day wsX3_day) := goodIn_app (goodIn_r _ [569, 570, 571, 2] (by rfl) (by rfl)) ggL_law_X3_day
set_option maxRecDepth 20000 in
theorem ggL_law_X4_day : GoodIn wsL_law wsX4_day := goodIn_r _ [576, 123, 413, 414, 415, 5, 416, 134, 639, 640, 641, 642, 643, 644, 645, 646, 647, 648, 649, 650, 651, 652, 653, 654, 655, 656, 657, 658, 659, 660, 661, 662] (by rfl) (by rfl)
set_option maxRecDepth 20000 in
theorem gL_law_X4_day : GoodIn wsL_law (wsV RL 167 RX4 yX4_day wsX4_day) := goodIn_app (goodIn_r _ [573, 574, 575, 5] (by rfl) (by rfl)) ggL_law_X4_day
set_option maxRecDepth 20000 in
theorem ggL_law_X3_received : GoodIn wsL_law wsX3_received := goodIn_r _ [580, 20, 581, 582, 583, 584, 19, 585, 151, 635, 636, 637, 638, 675, 676, 677, 678, 679, 680, 681, 682, 683] (by rfl) (by rfl)
set_option maxRecDepth 20000 in
theorem gL_law_X3_received : GoodIn wsL_law (wsV RL 168 RX3 yX3_received wsX3_received) := goodIn_app (goodIn_r _ [577, 578, 579, 2] (by rfl) (by rfl)) ggL_law_X3_received
set_option maxRecDepth 20000 in
theorem ggL_law_X4_received : GoodIn wsL_law wsX4_received := goodIn_r _ [589, 75, 590, 591, 592, 5, 593, 249, 413, 414, 415, 416, 134, 639, 640, 641, 642, 643, 644, 645, 646, 647, 648, 649, 650, 651, 652, 653, 654, 655, 656, 657, 658, 659, 660, 661, 662] (by rfl) (by rfl)
set_option maxRecDepth 20000 in
theorem gL_law_X4_received : GoodIn wsL_law (wsV RL 171 RX4 yX4_received wsX4_received) := goodIn_app (goodIn_r _ [586, 587, 588, 5] (by rfl) (by rfl)) ggL_law_X4_received
set_option maxRecDepth 20000 in
theorem ggL_law_X3_applied : GoodIn wsL_law wsX3_applied := goodIn_r _ [597, 20, 598, 582, 583, 584, 19, 585, 151, 635, 636, 637, 638, 675, 676, 677, 678, 679, 680, 681, 682, 683] (by rfl) (by rfl)
set_option maxRecDepth 20000 in
theorem gL_law_X3_applied : GoodIn wsL_law (wsV RL 172 RX3 yX3_applied wsX3_applied) := goodIn_app (goodIn_r _ [594, 595, 596, 2] (by rfl) (by rfl)) ggL_law_X3_applied
set_option maxRecDepth 20000 in
theorem ggL_law_X4_applied : GoodIn wsL_law wsX4_applied := goodIn_r _ [602, 75, 77, 78, 590, 591, 592, 5, 593, 249, 603, 604, 605, 606, 79, 413, 414, 415, 416, 134, 639, 640, 641, 642, 643, 644, 645, 646, 647, 648, 649, 650, 651, 652, 653, 654, 655, 656, 657, 658, 659, 660, 661, 662] (by rfl) (by rfl)
set_option maxRecDepth 20000 in
theorem gL_law_X4_applied : GoodIn wsL_law (wsV RL 175 RX4 yX4_applied wsX4_applied) := goodIn_app (goodIn_r _ [599, 600, 601, 5] (by rfl) (by rfl)) ggL_law_X4_applied
set_option maxRecDepth 20000 in
theorem ggL_law_X3_allUnapplied : GoodIn wsL_law wsX3_allUnapplied := goodIn_r _ [610, 20, 157, 582, 583, 584, 19, 585, 151, 635, 636, 637, 638, 675, 676, 677, 678, 679, 680, 681, 682, 683] (by rfl) (by rfl)
set_option maxRecDepth 20000 in
theorem gL_law_X3_allUnapplied : GoodIn wsL_law (wsV RL 176 RX3 yX3_allUnapplied wsX3_allUnapplied) := goodIn_app (goodIn_r _ [607, 608, 609, 2] (by rfl) (by rfl)) ggL_law_X3_allUnapplied
set_option maxRecDepth 20000 in
theorem ggL_law_X4_allUnapplied : GoodIn wsL_law wsX4_allUnapplied := goodIn_r _ [614, 77, 590, 591, 592, 5, 593, 249, 413, 414, 415, 416, 134, 639, 640, 641, 642, 643, 644, 645, 646, 647, 648, 649, 650, 651, 652, 653, 654, 655, 656, 657, 658, 659, 660, 661, 662] (by rfl) (by rfl)
set_option maxRecDepth 20000 in
theorem gL_law_X4_allUnapplied : GoodIn wsL_law (wsV RL 179 RX4 yX4_allUnapplied wsX4_allUnapplied) := goodIn_app (goodIn_r _ [611, 612, 613, 5] (by rfl) (by rfl)) ggL_law_X4_allUnapplied
set_option maxRecDepth 20000 in
theorem ggL_law_X3_paidBack : GoodIn wsL_law wsX3_paidBack := goodIn_r _ [618, 20, 348, 582, 583, 584, 19, 585, 151, 635, 636, 637, 638, 675, 676, 677, 678, 679, 680, 681, 682, 683] (by rfl) (by rfl)
set_option maxRecDepth 20000 in
theorem gL_law_X3_paidBack : GoodIn wsL_law (wsV RL 180 RX3 yX3_paidBack wsX3_paidBack) := goodIn_app (goodIn_r _ [615, 616, 617, 2] (by rfl) (by rfl)) ggL_law_X3_paidBack
set_option maxRecDepth 20000 in
theorem ggL_law_X4_paidBack : GoodIn wsL_law wsX4_paidBack := goodIn_r _ [622, 78, 590, 591, 592, 5, 593, 249, 413, 414, 415, 416, 134, 639, 640, 641, 642, 643, 644, 645, 646, 647, 648, 649, 650, 651, 652, 653, 654, 655, 656, 657, 658, 659, 660, 661, 662] (by rfl) (by rfl)
set_option maxRecDepth 20000 in
theorem gL_law_X4_paidBack : GoodIn wsL_law (wsV RL 183 RX4 yX4_paidBack wsX4_paidBack) := goodIn_app (goodIn_r _ [619, 620, 621, 5] (by rfl) (by rfl)) ggL_law_X4_paidBack
set_option maxRecDepth 20000 in
theorem ggL_law_X3_bounced : GoodIn wsL_law wsX3_bounced := goodIn_r _ [626, 20, 627, 628, 629, 19, 630, 151, 50, 45, 635, 636, 637, 638, 675, 676, 677, 678, 679, 680, 681, 682, 683] (by rfl) (by rfl)
set_option maxRecDepth 20000 in
theorem gL_law_X3_bounced : GoodIn wsL_law (wsV RL 184 RX3 yX3_bounced wsX3_bounced) := goodIn_app (goodIn_r _ [623, 624, 625, 2] (by rfl) (by rfl)) ggL_law_X3_bounced
set_option maxRecDepth 20000 in
theorem ggL_law_X4_bounced : GoodIn wsL_law wsX4_bounced := goodIn_r _ [634, 603, 604, 605, 5, 606, 249, 79, 75, 413, 414, 415, 416, 134, 639, 640, 641, 642, 643, 644, 645, 646, 647, 648, 649, 650, 651, 652, 653, 654, 655, 656, 657, 658, 659, 660, 661, 662] (by rfl) (by rfl)
set_option maxRecDepth 20000 in
theorem gL_law_X4_bounced : GoodIn wsL_law (wsV RL 187 RX4 yX4_bounced wsX4_bounced) := goodIn_app (goodIn_r _ [631, 632, 633, 5] (by rfl) (by rfl)) ggL_law_X4_bounced
