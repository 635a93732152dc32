set_option maxRecDepth 20000 in
theorem ggL_bills_X3_bill : GoodIn wsL_bills wsX3_bill := goodIn_ca (goodIn_ca (goodIn_ca (goodIn_r _ [11, 12, 13, 14, 15, 16, 17, 18, 19, 10, 20, 21, 22, 23, 24, 25, 26, 27, 28, 29, 30, 31, 32, 33, 34, 35, 36, 37, 38, 39, 40, 41, 42, 43, 44, 45, 46, 47, 48, 49, 50, 51, 52, 53, 54, 55, 56, 57, 58, 59, 60] (by rfl) (by rfl)) (goodIn_sub (fun _ h => List.mem_cons_of_mem _ (List.mem_append_left _ (List.mem_append_left _ (List.mem_append_right _ h)))) (by rfl))) (goodIn_sub (fun _ h => List.mem_cons_of_mem _ (List.mem_append_left _ (List.mem_append_right _ h))) (by rfl))) (goodIn_sub (fun _ h => List.mem_cons_of_mem _ (List.mem_append_right _ h)) (by rfl))
set_option maxRecDepth 20000 in
theorem gL_bills_X3_bill : GoodIn wsL_bills (wsV RL 7 RX3 yX3_bill wsX3_bill) := goodIn_app (goodIn_r _ [7, 8, 9, 10] (by rfl) (by rfl)) ggL_bills_X3_bill
set_option maxRecDepth 20000 in
theorem ggL_receives_X3_receive : GoodIn wsL_receives wsX3_receive := goodIn_ca (goodIn_ca (goodIn_ca (goodIn_r _ [11, 12, 13, 14, 15, 16, 17, 18, 10, 19, 20, 21, 22, 23, 24, 25, 26, 27, 28, 29, 30, 31, 32, 33, 34, 35, 36, 37, 38, 39, 40, 41, 42, 43, 44, 45, 46, 47, 48, 49, 50, 51, 52, 53, 54, 55, 56, 57, 58, 59, 60, 61, 62, 63, 64, 65, 66, 67, 68, 69, 70, 71, 72, 73, 74, 75, 76, 77, 78, 79, 80, 81, 82, 83, 84, 85, 86, 87, 88, 89, 90, 91, 92, 93, 94, 95, 96, 97, 98, 99, 100, 101, 102, 103, 104, 105, 106, 107, 108, 109, 110, 111, 112, 113, 114, 115, 116, 117, 118, 119, 120, 121, 122, 123, 124, 125, 126, 127, 128, 129, 130, 131, 132, 133, 134, 135, 136, 137, 138, 139, 140, 141, 142, 143, 144, 145, 146, 147, 148, 149, 150, 151, 152, 153, 154, 155, 156, 157, 158, 159, 160, 161, 162, 163, 164, 165, 166, 167, 168, 169, 170, 171, 172, 173, 174, 175, 176, 177, 178, 179, 180, 181] (by rfl) (by rfl)) (goodIn_sub (fun _ h => List.mem_cons_of_mem _ (List.mem_append_left _ (List.mem_append_left _ (List.mem_append_right _ h)))) (by rfl))) (goodIn_sub (fun _ h => List.mem_cons_of_mem _ (List.mem_append_left _ (List.mem_append_right _ h))) (by rfl))) (goodIn_sub (fun _ h => List.mem_cons_of_mem _ (List.mem_append_right _ h)) (by rfl))
set_option maxRecDepth 20000 in
theorem gL_receives_X3_receive : GoodIn wsL_receives (wsV RL 22 RX3 yX3_receive wsX3_receive) := goodIn_app (goodIn_r _ [7, 8, 9, 10] (by rfl) (by rfl)) ggL_receives_X3_receive
set_option maxRecDepth 20000 in
theorem ggL_assigns_X3_assign : GoodIn wsL_assigns wsX3_assign := goodIn_ca (goodIn_ca (goodIn_r _ [9, 10, 11, 12, 13, 14, 15, 16, 17, 8, 18, 19, 20, 21, 22, 23, 24, 25, 26, 27, 28, 29, 30, 31, 32, 33, 34, 35, 36, 37, 38, 39, 40, 41, 42, 43, 44, 45, 46, 47, 48, 49, 50, 51, 52, 53, 54, 55, 56, 57, 58, 59, 60, 61, 62, 63, 64, 65, 66, 67, 68, 69, 70, 71, 72, 73, 74, 75, 76, 77, 78, 79, 80, 81, 82, 83, 84, 85, 86, 87, 88, 89, 90, 91, 92, 93, 94, 95, 96, 97, 98, 99, 100, 101, 102, 103, 104, 105, 106, 107, 108, 109, 110, 111, 112, 113, 114, 115, 116, 117, 118, 119, 120, 121, 122, 123, 124, 125, 126, 127, 128, 129, 130, 131, 132, 133, 134, 135, 136, 137, 138, 139, 140, 141, 142, 143, 144, 145, 146, 147, 148, 149, 150, 151, 152, 153, 154, 155, 156, 157, 158, 159] (by rfl) (by rfl)) (goodIn_sub (fun _ h => List.mem_cons_of_mem _ (List.mem_append_left _ (List.mem_append_right _ h))) (by rfl))) (goodIn_sub (fun _ h => List.mem_cons_of_mem _ (List.mem_append_right _ h)) (by rfl))
set_option maxRecDepth 20000 in
theorem gL_assigns_X3_assign : GoodIn wsL_assigns (wsV RL 26 RX3 yX3_assign wsX3_assign) := goodIn_app (goodIn_r _ [5, 6, 7, 8] (by rfl) (by rfl)) ggL_assigns_X3_assign
set_option maxRecDepth 20000 in
theorem ggL_applies_X3_apply : GoodIn wsL_applies wsX3_apply := goodIn_ca (goodIn_ca (goodIn_r _ [9, 10, 11, 12, 13, 14, 15, 16, 17, 8, 18, 19, 20, 21, 22, 23, 24, 25, 26, 27, 28, 29, 30, 31, 32, 33, 34, 35, 36, 37, 38, 39, 40, 41, 42, 43, 44, 45, 46, 47, 48, 49, 50, 51, 52, 53, 54, 55, 56, 57, 58, 59, 60, 61, 62, 63, 64, 65, 66, 67, 68, 69, 70, 71, 72, 73, 74, 75, 76, 77, 78, 79, 80, 81, 82, 83, 84, 85, 86, 87, 88, 89, 90, 91, 92, 93, 94, 95, 96, 97, 98, 99, 100, 101, 102, 103, 104, 105, 106, 107, 108, 109, 110, 111, 112, 113, 114, 115, 116, 117, 118, 119, 120, 121, 122, 123, 124, 125, 126, 127, 128, 129, 130, 131, 132, 133, 134, 135, 136, 137, 138, 139, 140, 141, 142, 143, 144, 145, 146, 147, 148, 149, 150, 151, 152, 153, 154, 155, 156] (by rfl) (by rfl)) (goodIn_sub (fun _ h => List.mem_cons_of_mem _ (List.mem_append_left _ (List.mem_append_right _ h))) (by rfl))) (goodIn_sub (fun _ h => List.mem_cons_of_mem _ (List.mem_append_right _ h)) (by rfl))
set_option maxRecDepth 20000 in
theorem gL_applies_X3_apply : GoodIn wsL_applies (wsV RL 30 RX3 yX3_apply wsX3_apply) := goodIn_app (goodIn_r _ [5, 6, 7, 8] (by rfl) (by rfl)) ggL_applies_X3_apply
set_option maxRecDepth 20000 in
theorem ggL_paysBack_X3_payBack : GoodIn wsL_paysBack wsX3_payBack := goodIn_ca (goodIn_ca (goodIn_r _ [9, 10, 11, 12, 13, 14, 15, 16, 8, 17, 18, 19, 20, 21, 22, 23, 24, 25, 26, 27, 28, 29, 30, 31, 32, 33, 34, 35, 36, 37, 38, 39, 40, 41, 42, 43, 44, 45] (by rfl) (by rfl)) (goodIn_sub (fun _ h => List.mem_cons_of_mem _ (List.mem_append_left _ (List.mem_append_right _ h))) (by rfl))) (goodIn_sub (fun _ h => List.mem_cons_of_mem _ (List.mem_append_right _ h)) (by rfl))
set_option maxRecDepth 20000 in
theorem gL_paysBack_X3_payBack : GoodIn wsL_paysBack (wsV RL 34 RX3 yX3_payBack wsX3_payBack) := goodIn_app (goodIn_r _ [5, 6, 7, 8] (by rfl) (by rfl)) ggL_paysBack_X3_payBack
set_option maxRecDepth 20000 in
theorem ggL_bounces_X3_bounce : GoodIn wsL_bounces wsX3_bounce := goodIn_ca (goodIn_ca (goodIn_r _ [9, 10, 11, 12, 13, 14, 15, 16, 17, 18, 8, 19, 20, 21, 22, 23, 24, 25, 26, 27, 28, 29, 30, 31, 32, 33, 34, 35, 36, 37, 38, 39, 40, 41, 42, 43, 44, 45, 46, 47, 48, 49, 50, 51, 52, 53, 54, 55, 56, 57, 58, 59, 60, 61, 62, 63, 64, 65, 66, 67, 68, 69, 70, 71, 72, 73, 74, 75, 76, 77, 78, 79, 80, 81, 82, 83, 84, 85, 86, 87, 88, 89, 90, 91, 92] (by rfl) (by rfl)) (goodIn_sub (fun _ h => List.mem_cons_of_mem _ (List.mem_append_left _ (List.mem_append_right _ h))) (by rfl))) (goodIn_sub (fun _ h => List.mem_cons_of_mem _ (List.mem_append_right _ h)) (by rfl))
set_option maxRecDepth 20000 in
theorem gL_bounces_X3_bounce : GoodIn wsL_bounces (wsV RL 37 RX3 yX3_bounce wsX3_bounce) := goodIn_app (goodIn_r _ [5, 6, 7, 8] (by rfl) (by rfl)) ggL_bounces_X3_bounce
set_option maxRecDepth 20000 in
theorem ggL_settles_X3_settle : GoodIn wsL_settles wsX3_settle := goodIn_ca (goodIn_ca (goodIn_r _ [9, 10, 11, 12, 13, 14, 15, 16, 8, 17, 18, 19, 20, 21, 22, 23, 24, 25, 26, 27, 28, 29, 30, 31, 32, 33, 34, 35, 36, 37, 38, 39, 40, 41, 42, 43, 44] (by rfl) (by rfl)) (goodIn_sub (fun _ h => List.mem_cons_of_mem _ (List.mem_append_left _ (List.mem_append_right _ h))) (by rfl))) (goodIn_sub (fun _ h => List.mem_cons_of_mem _ (List.mem_append_right _ h)) (by rfl))
set_option maxRecDepth 20000 in
theorem gL_settles_X3_settle : GoodIn wsL_settles (wsV RL 40 RX3 yX3_settle wsX3_settle) := goodIn_app (goodIn_r _ [5, 6, 7, 8] (by rfl) (by rfl)) ggL_settles_X3_settle
set_option maxRecDepth 20000 in
theorem ggL_advances_X3_advance : GoodIn wsL_advances wsX3_advance := goodIn_ca (goodIn_r _ [7, 8, 9, 10, 6, 11, 12, 13, 14, 15, 16, 17] (by rfl) (by rfl)) (goodIn_sub (fun _ h => List.mem_cons_of_mem _ (List.mem_append_right _ h)) (by rfl))
set_option maxRecDepth 20000 in
theorem gL_advances_X3_advance : GoodIn wsL_advances (wsV RL 44 RX3 yX3_advance wsX3_advance) := goodIn_app (goodIn_r _ [3, 4, 5, 6] (by rfl) (by rfl)) ggL_advances_X3_advance
set_option maxRecDepth 20000 in
theorem ggL_open_X3_open : GoodIn wsL_open wsX3_open := goodIn_ca (goodIn_r _ [7, 8, 9, 10, 11, 6, 12, 13, 14, 15, 16, 17, 18, 19, 20, 21, 22, 23, 24, 25, 26, 27, 28, 29, 30, 31, 32, 33, 34, 35, 36, 37, 38, 39, 40, 41] (by rfl) (by rfl)) (goodIn_sub (fun _ h => List.mem_cons_of_mem _ (List.mem_append_right _ h)) (by rfl))
set_option maxRecDepth 20000 in
theorem gL_open_X3_open : GoodIn wsL_open (wsV RL 47 RX3 yX3_open wsX3_open) := goodIn_app (goodIn_r _ [3, 4, 5, 6] (by rfl) (by rfl)) ggL_open_X3_open
set_option maxRecDepth 20000 in
theorem ggL_due_X3_due : GoodIn wsL_due wsX3_due := goodIn_ca (goodIn_r _ [7, 8, 9, 10, 11, 12, 6, 13, 14, 15, 16, 17, 18, 19, 20, 21, 22, 23, 24, 25, 26, 27, 28, 29, 30, 31, 32, 33, 34, 35, 36, 37, 38, 39, 40, 41, 42, 43, 44, 45, 46, 47, 48, 49, 50, 51, 52] (by rfl) (by rfl)) (goodIn_sub (fun _ h => List.mem_cons_of_mem _ (List.mem_append_right _ h)) (by rfl))
set_option maxRecDepth 20000 in
theorem gL_due_X3_due : GoodIn wsL_due (wsV RL 50 RX3 yX3_due wsX3_due) := goodIn_app (goodIn_r _ [3, 4, 5, 6] (by rfl) (by rfl)) ggL_due_X3_due
set_option maxRecDepth 20000 in
theorem ggL_paid_X3_paid : GoodIn wsL_paid wsX3_paid := goodIn_ca (goodIn_r _ [7, 8, 9, 10, 11, 12, 6, 13, 14, 15, 16, 17, 18, 19, 20, 21, 22, 23, 24, 25, 26, 27, 28, 29, 30, 31, 32] (by rfl) (by rfl)) (goodIn_sub (fun _ h => List.mem_cons_of_mem _ (List.mem_append_right _ h)) (by rfl))
set_option maxRecDepth 20000 in
theorem gL_paid_X3_paid : GoodIn wsL_paid (wsV RL 53 RX3 yX3_paid wsX3_paid) := goodIn_app (goodIn_r _ [3, 4, 5, 6] (by rfl) (by rfl)) ggL_paid_X3_paid
set_option maxRecDepth 20000 in
theorem ggL_taken_X3_taken : GoodIn wsL_taken wsX3_taken := goodIn_ca (goodIn_r _ [7, 8, 9, 10, 11, 12, 6, 13, 14, 15, 16, 17, 18, 19, 20, 21, 22, 23, 24, 25, 26, 27, 28, 29, 30, 31, 32] (by rfl) (by rfl)) (goodIn_sub (fun _ h => List.mem_cons_of_mem _ (List.mem_append_right _ h)) (by rfl))
set_option maxRecDepth 20000 in
theorem gL_taken_X3_taken : GoodIn wsL_taken (wsV RL 56 RX3 yX3_taken wsX3_taken) := goodIn_app (goodIn_r _ [3, 4, 5, 6] (by rfl) (by rfl)) ggL_taken_X3_taken
set_option maxRecDepth 20000 in
theorem ggL_disputed_X3_disputed : GoodIn wsL_disputed wsX3_disputed := goodIn_ca (goodIn_r _ [7, 8, 9, 10, 11, 12, 6, 13, 14, 15, 16, 17, 18, 19, 20, 21, 22, 23, 24, 25, 26, 27, 28, 29, 30, 31, 32] (by rfl) (by rfl)) (goodIn_sub (fun _ h => List.mem_cons_of_mem _ (List.mem_append_right _ h)) (by rfl))
set_option maxRecDepth 20000 in
theorem gL_disputed_X3_disputed : GoodIn wsL_disputed (wsV RL 59 RX3 yX3_disputed wsX3_disputed) := goodIn_app (goodIn_r _ [3, 4, 5, 6] (by rfl) (by rfl)) ggL_disputed_X3_disputed
set_option maxRecDepth 20000 in
theorem ggL_written_X3_writtenOff : GoodIn wsL_written wsX3_writtenOff := goodIn_ca (goodIn_r _ [7, 8, 9, 10, 11, 12, 6, 13, 14, 15, 16, 17, 18, 19, 20, 21, 22, 23, 24, 25, 26, 27, 28, 29, 30, 31, 32] (by rfl) (by rfl)) (goodIn_sub (fun _ h => List.mem_cons_of_mem _ (List.mem_append_right _ h)) (by rfl))
set_option maxRecDepth 20000 in
theorem gL_written_X3_writtenOff : GoodIn wsL_written (wsV RL 62 RX3 yX3_writtenOff wsX3_writtenOff) := goodIn_app (goodIn_r _ [3, 4, 5, 6] (by rfl) (by rfl)) ggL_written_X3_writtenOff
set_option maxRecDepth 20000 in
theorem ggL_openOf_X3_openOf : GoodIn wsL_openOf wsX3_openOf := goodIn_ca (goodIn_r _ [7, 8, 9, 10, 11, 12, 6, 13, 14, 15, 16, 17, 18, 19, 20, 21, 22, 23, 24, 25, 26, 27, 28, 29, 30, 31, 32, 33, 34, 35, 36, 37, 38, 39, 40, 41] (by rfl) (by rfl)) (goodIn_sub (fun _ h => List.mem_cons_of_mem _ (List.mem_append_right _ h)) (by rfl))
set_option maxRecDepth 20000 in
theorem gL_openOf_X3_openOf : GoodIn wsL_openOf (wsV RL 65 RX3 yX3_openOf wsX3_openOf) := goodIn_app (goodIn_r _ [3, 4, 5, 6] (by rfl) (by rfl)) ggL_openOf_X3_openOf
set_option maxRecDepth 20000 in
theorem ggL_setFor_X3_setFor : GoodIn wsL_setFor wsX3_setFor := goodIn_ca (goodIn_ca (goodIn_r _ [9, 10, 11, 12, 13, 14, 15, 16, 17, 8, 18, 19, 20, 21, 22, 23, 24, 25, 26, 27, 28, 29, 30, 31, 32, 33, 34, 35, 36, 37, 38, 39, 40, 41, 42, 43, 44, 45, 46, 47, 48, 49, 50, 51, 52, 53, 54, 55, 56, 57, 58, 59, 60, 61, 62, 63, 64, 65, 66, 67, 68, 69, 70, 71, 72, 73, 74, 75, 76, 77, 78, 79, 80, 81, 82, 83, 84, 85, 86, 87, 88, 89, 90, 91, 92, 93, 94, 95, 96, 97, 98, 99, 100, 101, 102, 103] (by rfl) (by rfl)) (goodIn_sub (fun _ h => List.mem_cons_of_mem _ (List.mem_append_left _ (List.mem_append_right _ h))) (by rfl))) (goodIn_sub (fun _ h => List.mem_cons_of_mem _ (List.mem_append_right _ h)) (by rfl))
set_option maxRecDepth 20000 in
theorem gL_setFor_X3_setFor : GoodIn wsL_setFor (wsV RL 68 RX3 yX3_setFor wsX3_setFor) := goodIn_app (goodIn_r _ [5, 6, 7, 8] (by rfl) (by rfl)) ggL_setFor_X3_setFor
set_option maxRecDepth 20000 in
theorem ggL_customer_X3_customerOf : GoodIn wsL_customer wsX3_customerOf := goodIn_ca (goodIn_r _ [7, 8, 9, 10, 11, 12, 6, 13, 14, 15, 16, 17, 18, 19, 20, 21, 22, 23, 24, 25, 26, 27, 28, 29] (by rfl) (by rfl)) (goodIn_sub (fun _ h => List.mem_cons_of_mem _ (List.mem_append_right _ h)) (by rfl))
set_option maxRecDepth 20000 in
theorem gL_customer_X3_customerOf : GoodIn wsL_customer (wsV RL 71 RX3 yX3_customerOf wsX3_customerOf) := goodIn_app (goodIn_r _ [3, 4, 5, 6] (by rfl) (by rfl)) ggL_customer_X3_customerOf
set_option maxRecDepth 20000 in
theorem ggL_appliedTo_X3_appliedTo : GoodIn wsL_appliedTo wsX3_appliedTo := goodIn_ca (goodIn_r _ [7, 8, 9, 10, 11, 6, 12, 13, 14, 15, 16, 17, 18, 19, 20, 21, 22, 23, 24, 25, 26, 27, 28, 29, 30, 31, 32, 33, 34, 35, 36, 37, 38, 39, 40, 41, 42, 43, 44, 45, 46, 47, 48, 49, 50, 51, 52, 53, 54, 55] (by rfl) (by rfl)) (goodIn_sub (fun _ h => List.mem_cons_of_mem _ (List.mem_append_right _ h)) (by rfl))
set_option maxRecDepth 20000 in
theorem gL_appliedTo_X3_appliedTo : GoodIn wsL_appliedTo (wsV RL 74 RX3 yX3_appliedTo wsX3_appliedTo) := goodIn_app (goodIn_r _ [3, 4, 5, 6] (by rfl) (by rfl)) ggL_appliedTo_X3_appliedTo
set_option maxRecDepth 20000 in
theorem ggL_unapplied_X3_unapplied : GoodIn wsL_unapplied wsX3_unapplied := goodIn_ca (goodIn_r _ [7, 8, 9, 10, 11, 12, 6, 13, 14, 15, 16, 17, 18, 19, 20, 21, 22, 23, 24, 25, 26, 27, 28, 29] (by rfl) (by rfl)) (goodIn_sub (fun _ h => List.mem_cons_of_mem _ (List.mem_append_right _ h)) (by rfl))
set_option maxRecDepth 20000 in
theorem gL_unapplied_X3_unapplied : GoodIn wsL_unapplied (wsV RL 77 RX3 yX3_unapplied wsX3_unapplied) := goodIn_app (goodIn_r _ [3, 4, 5, 6] (by rfl) (by rfl)) ggL_unapplied_X3_unapplied
set_option maxRecDepth 20000 in
theorem ggL_bounced_X3_hasBounced : GoodIn wsL_bounced wsX3_hasBounced := goodIn_ca (goodIn_r _ [7, 8, 9, 10, 11, 12, 6, 13, 14, 15, 16, 17, 18, 19, 20, 21, 22, 23, 24, 25, 26, 27, 28, 29] (by rfl) (by rfl)) (goodIn_sub (fun _ h => List.mem_cons_of_mem _ (List.mem_append_right _ h)) (by rfl))
set_option maxRecDepth 20000 in
theorem gL_bounced_X3_hasBounced : GoodIn wsL_bounced (wsV RL 80 RX3 yX3_hasBounced wsX3_hasBounced) := goodIn_app (goodIn_r _ [3, 4, 5, 6] (by rfl) (by rfl)) ggL_bounced_X3_hasBounced
