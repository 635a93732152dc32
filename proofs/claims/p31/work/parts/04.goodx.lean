set_option maxRecDepth 20000 in
theorem ggX0_isOpenFor_X0_openSum : GoodIn wsX0_isOpenFor wsX0_openSum := goodIn_r _ [6, 7, 8, 9, 10, 11, 12, 13, 14, 15, 16, 17, 18, 19, 20, 21, 22, 23] (by rfl) (by rfl)
set_option maxRecDepth 20000 in
theorem gX0_isOpenFor_X0_openSum : GoodIn wsX0_isOpenFor (wsV RX0 49 RX0 yX0_openSum wsX0_openSum) := goodIn_app (goodIn_r _ [2, 3, 4, 5] (by rfl) (by rfl)) ggX0_isOpenFor_X0_openSum
set_option maxRecDepth 20000 in
theorem ggX0_allowsDiscount_X0_openSum : GoodIn wsX0_allowsDiscount wsX0_openSum := goodIn_r _ [7, 1, 8, 9, 10, 11, 12, 13, 14, 15, 16, 17, 18, 19, 20, 21, 22, 23] (by rfl) (by rfl)
set_option maxRecDepth 20000 in
theorem gX0_allowsDiscount_X0_openSum : GoodIn wsX0_allowsDiscount (wsV RX0 49 RX0 yX0_openSum wsX0_openSum) := goodIn_app (goodIn_r _ [3, 4, 5, 6] (by rfl) (by rfl)) ggX0_allowsDiscount_X0_openSum
set_option maxRecDepth 20000 in
theorem ggX0_dueOn_X0_openSum : GoodIn wsX0_dueOn wsX0_openSum := goodIn_r _ [6, 7, 8, 9, 10, 11, 17, 18, 19, 20, 21, 22, 23, 24, 25, 26, 27, 28] (by rfl) (by rfl)
set_option maxRecDepth 20000 in
theorem gX0_dueOn_X0_openSum : GoodIn wsX0_dueOn (wsV RX0 49 RX0 yX0_openSum wsX0_openSum) := goodIn_app (goodIn_r _ [2, 3, 4, 5] (by rfl) (by rfl)) ggX0_dueOn_X0_openSum
set_option maxRecDepth 20000 in
theorem ggX0_dueOn_X0_allowsDiscount : GoodIn wsX0_dueOn wsX0_allowsDiscount := goodIn_r _ [15, 7, 16, 2, 3, 4, 5, 6, 8, 9, 10, 11, 17, 18, 19, 20, 21, 22, 23, 24, 25, 26, 27, 28] (by rfl) (by rfl)
set_option maxRecDepth 20000 in
theorem gX0_dueOn_X0_allowsDiscount : GoodIn wsX0_dueOn (wsV RX0 53 RX0 yX0_allowsDiscount wsX0_allowsDiscount) := goodIn_app (goodIn_r _ [12, 13, 14, 5] (by rfl) (by rfl)) ggX0_dueOn_X0_allowsDiscount
set_option maxRecDepth 20000 in
theorem ggX0_customerNamedBy_X0_openSum : GoodIn wsX0_customerNamedBy wsX0_openSum := goodIn_r _ [8, 9, 10, 11, 12, 13, 14, 15, 16, 17, 18, 19, 20, 21, 22, 23, 24, 25] (by rfl) (by rfl)
set_option maxRecDepth 20000 in
theorem gX0_customerNamedBy_X0_openSum : GoodIn wsX0_customerNamedBy (wsV RX0 49 RX0 yX0_openSum wsX0_openSum) := goodIn_app (goodIn_r _ [4, 5, 6, 7] (by rfl) (by rfl)) ggX0_customerNamedBy_X0_openSum
set_option maxRecDepth 20000 in
theorem ggX0_takeDiscount_X0_allowsDiscount : GoodIn wsX0_takeDiscount wsX0_allowsDiscount := goodIn_r _ [8, 9, 10, 11, 12, 13, 7, 14, 15, 1, 16, 17, 18, 19, 20, 21, 22, 23, 24, 25, 26, 27, 28, 29] (by rfl) (by rfl)
set_option maxRecDepth 20000 in
theorem gX0_takeDiscount_X0_allowsDiscount : GoodIn wsX0_takeDiscount (wsV RX0 53 RX0 yX0_allowsDiscount wsX0_allowsDiscount) := goodIn_app (goodIn_r _ [4, 5, 6, 7] (by rfl) (by rfl)) ggX0_takeDiscount_X0_allowsDiscount
set_option maxRecDepth 20000 in
theorem ggX0_disputeRest_X0_openSum : GoodIn wsX0_disputeRest wsX0_openSum := goodIn_r _ [7, 8, 9, 10, 1, 11, 12, 13, 14, 15, 16, 17, 18, 19, 20, 21, 22, 23] (by rfl) (by rfl)
set_option maxRecDepth 20000 in
theorem gX0_disputeRest_X0_openSum : GoodIn wsX0_disputeRest (wsV RX0 49 RX0 yX0_openSum wsX0_openSum) := goodIn_app (goodIn_r _ [3, 4, 5, 6] (by rfl) (by rfl)) ggX0_disputeRest_X0_openSum
set_option maxRecDepth 20000 in
theorem ggX0_undo_X0_endDispute : GoodIn wsX0_undo wsX0_endDispute := goodIn_r _ [9, 10, 11, 4, 12, 13, 14, 15, 16, 17, 18, 19, 20, 21, 22, 23] (by rfl) (by rfl)
set_option maxRecDepth 20000 in
theorem gX0_undo_X0_endDispute : GoodIn wsX0_undo (wsV RX0 57 RX0 yX0_endDispute wsX0_endDispute) := goodIn_app (goodIn_r _ [5, 6, 7, 8] (by rfl) (by rfl)) ggX0_undo_X0_endDispute
set_option maxRecDepth 20000 in
theorem ggX1_choose_X1_chooseOne : GoodIn wsX1_choose wsX1_chooseOne := goodIn_r _ [5, 6, 7, 8, 9, 10, 4, 11, 12, 13, 22, 23, 24, 25] (by rfl) (by rfl)
set_option maxRecDepth 20000 in
theorem gX1_choose_X1_chooseOne : GoodIn wsX1_choose (wsV RX1 25 RX1 yX1_chooseOne wsX1_chooseOne) := goodIn_app (goodIn_r _ [1, 2, 3, 4] (by rfl) (by rfl)) ggX1_choose_X1_chooseOne
set_option maxRecDepth 20000 in
theorem ggX1_choose_X1_chooseTwo : GoodIn wsX1_choose wsX1_chooseTwo := goodIn_r _ [17, 12, 13, 6, 7, 8, 9, 10, 4, 11, 22, 23, 24, 25] (by rfl) (by rfl)
set_option maxRecDepth 20000 in
theorem gX1_choose_X1_chooseTwo : GoodIn wsX1_choose (wsV RX1 29 RX1 yX1_chooseTwo wsX1_chooseTwo) := goodIn_app (goodIn_r _ [14, 15, 16, 4] (by rfl) (by rfl)) ggX1_choose_X1_chooseTwo
set_option maxRecDepth 20000 in
theorem ggX1_choose_X1_chooseThree : GoodIn wsX1_choose wsX1_chooseThree := goodIn_r _ [21, 12, 13, 6, 7, 8, 9, 10, 4, 11, 22, 23, 24, 25] (by rfl) (by rfl)
set_option maxRecDepth 20000 in
theorem gX1_choose_X1_chooseThree : GoodIn wsX1_choose (wsV RX1 32 RX1 yX1_chooseThree wsX1_chooseThree) := goodIn_app (goodIn_r _ [18, 19, 20, 4] (by rfl) (by rfl)) ggX1_choose_X1_chooseThree
set_option maxRecDepth 20000 in
theorem ggX1_chooseOne_X1_find : GoodIn wsX1_chooseOne wsX1_find := goodIn_r _ [7, 8, 9, 10, 11, 12, 13] (by rfl) (by rfl)
set_option maxRecDepth 20000 in
theorem gX1_chooseOne_X1_find : GoodIn wsX1_chooseOne (wsV RX1 36 RX1 yX1_find wsX1_find) := goodIn_app (goodIn_r _ [3, 4, 5, 6] (by rfl) (by rfl)) ggX1_chooseOne_X1_find
set_option maxRecDepth 20000 in
theorem ggX1_chooseTwo_X1_find : GoodIn wsX1_chooseTwo wsX1_find := goodIn_r _ [9, 1, 2, 10, 11, 12, 13] (by rfl) (by rfl)
set_option maxRecDepth 20000 in
theorem gX1_chooseTwo_X1_find : GoodIn wsX1_chooseTwo (wsV RX1 36 RX1 yX1_find wsX1_find) := goodIn_app (goodIn_r _ [5, 6, 7, 8] (by rfl) (by rfl)) ggX1_chooseTwo_X1_find
set_option maxRecDepth 20000 in
theorem ggX1_chooseThree_X1_find : GoodIn wsX1_chooseThree wsX1_find := goodIn_r _ [9, 1, 2, 10, 11, 12, 13] (by rfl) (by rfl)
set_option maxRecDepth 20000 in
theorem gX1_chooseThree_X1_find : GoodIn wsX1_chooseThree (wsV RX1 36 RX1 yX1_find wsX1_find) := goodIn_app (goodIn_r _ [5, 6, 7, 8] (by rfl) (by rfl)) ggX1_chooseThree_X1_find
set_option maxRecDepth 20000 in
theorem ggX2_hasPaid_X2_cell : GoodIn wsX2_hasPaid wsX2_cell := goodIn_r _ [5] (by rfl) (by rfl)
set_option maxRecDepth 20000 in
theorem gX2_hasPaid_X2_cell : GoodIn wsX2_hasPaid (va_wsS RX2 41 yX2_cell wsX2_cell) := goodIn_app (goodIn_r _ [2, 3, 4] (by rfl) (by rfl)) ggX2_hasPaid_X2_cell
set_option maxRecDepth 20000 in
theorem ggX2_paidOf_X2_cell : GoodIn wsX2_paidOf wsX2_cell := goodIn_r _ [5] (by rfl) (by rfl)
set_option maxRecDepth 20000 in
theorem gX2_paidOf_X2_cell : GoodIn wsX2_paidOf (va_wsS RX2 41 yX2_cell wsX2_cell) := goodIn_app (goodIn_r _ [2, 3, 4] (by rfl) (by rfl)) ggX2_paidOf_X2_cell
set_option maxRecDepth 20000 in
theorem ggX2_addPayment_X2_cell : GoodIn wsX2_addPayment wsX2_cell := goodIn_r _ [8] (by rfl) (by rfl)
set_option maxRecDepth 20000 in
theorem gX2_addPayment_X2_cell : GoodIn wsX2_addPayment (va_wsS RX2 41 yX2_cell wsX2_cell) := goodIn_app (goodIn_r _ [5, 6, 7] (by rfl) (by rfl)) ggX2_addPayment_X2_cell
set_option maxRecDepth 20000 in
theorem ggX2_dropPayment_X2_cell : GoodIn wsX2_dropPayment wsX2_cell := goodIn_r _ [7] (by rfl) (by rfl)
set_option maxRecDepth 20000 in
theorem gX2_dropPayment_X2_cell : GoodIn wsX2_dropPayment (va_wsS RX2 41 yX2_cell wsX2_cell) := goodIn_app (goodIn_r _ [4, 5, 6] (by rfl) (by rfl)) ggX2_dropPayment_X2_cell
set_option maxRecDepth 20000 in
theorem ggX3_init_X0_init : GoodIn wsX3_init wsX0_init := goodIn_r _ [18, 19, 2, 3, 20, 21, 22, 23, 24, 25, 26, 27, 28, 29, 30, 31, 50, 51, 52, 53, 54, 55, 56, 57, 58, 59, 60, 61] (by rfl) (by rfl)
set_option maxRecDepth 20000 in
theorem gX3_init_X0_init_n9 : GoodIn wsX3_init (wsX0_init) := ggX3_init_X0_init
set_option maxRecDepth 20000 in
theorem ggX3_init_X2_init : GoodIn wsX3_init wsX2_init := goodIn_r _ [33, 34, 2, 3, 20, 35, 36, 37, 38, 39, 40, 41, 42, 43, 66, 67, 68, 69, 70, 71, 72, 73, 74] (by rfl) (by rfl)
set_option maxRecDepth 20000 in
theorem gX3_init_X2_init_n18 : GoodIn wsX3_init (wsX2_init) := ggX3_init_X2_init
set_option maxRecDepth 20000 in
theorem ggX3_init_X1_init : GoodIn wsX3_init wsX1_init := goodIn_r _ [45, 46, 2, 3, 20, 47, 48, 49, 75, 76, 77, 78] (by rfl) (by rfl)
set_option maxRecDepth 20000 in
theorem gX3_init_X1_init_n25 : GoodIn wsX3_init (wsX1_init) := ggX3_init_X1_init
set_option maxRecDepth 20000 in
theorem ggX3_bill_X3_requireCustomer : GoodIn wsX3_bill wsX3_requireCustomer := goodIn_ca (goodIn_r _ [10, 11, 12] (by rfl) (by rfl)) (goodIn_sub (fun _ h => List.mem_cons_of_mem _ (List.mem_append_left _ (List.mem_append_right _ h))) (by rfl))
set_option maxRecDepth 20000 in
theorem gX3_bill_X3_requireCustomer : GoodIn wsX3_bill (va_wsS RX3 34 yX3_requireCustomer wsX3_requireCustomer) := goodIn_app (goodIn_r _ [7, 8, 9] (by rfl) (by rfl)) ggX3_bill_X3_requireCustomer
set_option maxRecDepth 20000 in
theorem ggX3_bill_X3_requireWithin : GoodIn wsX3_bill wsX3_requireWithin := goodIn_ca (goodIn_r _ [15, 16, 17] (by rfl) (by rfl)) (goodIn_sub (fun _ h => List.mem_cons_of_mem _ (List.mem_append_right _ h)) (by rfl))
set_option maxRecDepth 20000 in
theorem gX3_bill_X3_requireWithin : GoodIn wsX3_bill (va_wsS RX3 39 yX3_requireWithin wsX3_requireWithin) := goodIn_app (goodIn_r _ [13, 14, 9] (by rfl) (by rfl)) ggX3_bill_X3_requireWithin
set_option maxRecDepth 20000 in
theorem ggX3_bill_X3_discountOf : GoodIn wsX3_bill wsX3_discountOf := goodIn_r _ [20, 21] (by rfl) (by rfl)
set_option maxRecDepth 20000 in
theorem gX3_bill_X3_discountOf : GoodIn wsX3_bill (va_wsS RX3 53 yX3_discountOf wsX3_discountOf) := goodIn_app (goodIn_r _ [18, 19, 9] (by rfl) (by rfl)) ggX3_bill_X3_discountOf
set_option maxRecDepth 20000 in
theorem ggX3_bill_X0_add : GoodIn wsX3_bill wsX0_add := goodIn_r _ [26, 27, 28, 29, 30, 31, 32, 33, 34, 39, 40, 41, 42, 43, 44, 45, 46, 47, 48, 49, 50] (by rfl) (by rfl)
set_option maxRecDepth 20000 in
theorem gX3_bill_X0_add : GoodIn wsX3_bill (wsV RX3 57 RX0 yX0_add wsX0_add) := goodIn_app (goodIn_r _ [22, 23, 24, 25] (by rfl) (by rfl)) ggX3_bill_X0_add
set_option maxRecDepth 20000 in
theorem ggX3_receive_X3_requireCustomer : GoodIn wsX3_receive wsX3_requireCustomer := goodIn_ca (goodIn_r _ [9, 10, 11] (by rfl) (by rfl)) (goodIn_sub (fun _ h => List.mem_cons_of_mem _ (List.mem_append_left _ (List.mem_append_right _ h))) (by rfl))
set_option maxRecDepth 20000 in
theorem gX3_receive_X3_requireCustomer : GoodIn wsX3_receive (va_wsS RX3 34 yX3_requireCustomer wsX3_requireCustomer) := goodIn_app (goodIn_r _ [6, 7, 8] (by rfl) (by rfl)) ggX3_receive_X3_requireCustomer
set_option maxRecDepth 20000 in
theorem ggX3_receive_X3_requireWithin : GoodIn wsX3_receive wsX3_requireWithin := goodIn_ca (goodIn_r _ [14, 15, 16] (by rfl) (by rfl)) (goodIn_sub (fun _ h => List.mem_cons_of_mem _ (List.mem_append_right _ h)) (by rfl))
set_option maxRecDepth 20000 in
theorem gX3_receive_X3_requireWithin : GoodIn wsX3_receive (va_wsS RX3 39 yX3_requireWithin wsX3_requireWithin) := goodIn_app (goodIn_r _ [12, 13, 8] (by rfl) (by rfl)) ggX3_receive_X3_requireWithin
set_option maxRecDepth 20000 in
theorem ggX3_receive_X2_add : GoodIn wsX3_receive wsX2_add := goodIn_r _ [21, 22, 23, 24, 25, 147, 148, 149, 150, 151, 152, 153, 154, 155] (by rfl) (by rfl)
set_option maxRecDepth 20000 in
theorem gX3_receive_X2_add : GoodIn wsX3_receive (wsV RX3 64 RX2 yX2_add wsX2_add) := goodIn_app (goodIn_r _ [17, 18, 19, 20] (by rfl) (by rfl)) ggX3_receive_X2_add
set_option maxRecDepth 20000 in
theorem ggX3_receive_X3_payNamedBills : GoodIn wsX3_receive wsX3_payNamedBills := goodIn_r _ [29, 4, 30, 31, 32, 33, 34, 35, 36, 37, 38, 39, 40, 41, 42, 43, 44, 45, 46, 47, 48, 49, 50, 51, 52, 53, 54, 55, 56, 57, 58, 8, 59, 60, 61, 62, 63, 64, 65, 66, 67, 68, 69, 70, 71, 72, 73, 74, 75, 76, 77, 78, 79, 20, 80, 81, 82, 83, 25, 84, 85, 86, 87, 88, 89, 90, 91, 143, 144, 145, 146, 147, 148, 149, 150, 151, 152, 153, 154, 155, 156, 157, 158, 159, 160, 161, 162, 163, 164, 165, 166, 167] (by rfl) (by rfl)
set_option maxRecDepth 20000 in
theorem gX3_receive_X3_payNamedBills : GoodIn wsX3_receive (wsV RX3 66 RX3 yX3_payNamedBills wsX3_payNamedBills) := goodIn_app (goodIn_r _ [26, 27, 28, 8] (by rfl) (by rfl)) ggX3_receive_X3_payNamedBills
set_option maxRecDepth 20000 in
theorem ggX3_receive_X3_payOtherBills : GoodIn wsX3_receive wsX3_payOtherBills := goodIn_r _ [95, 4, 30, 33, 96, 97, 98, 8, 99, 100, 101, 31, 32, 102, 103, 104, 105, 60, 106, 107, 108, 109, 110, 111, 112, 52, 53, 54, 38, 55, 42, 43, 44, 45, 46, 47, 48, 49, 50, 51, 62, 63, 64, 65, 66, 67, 68, 69, 70, 71, 113, 114, 115, 116, 117, 118, 119, 120, 121, 122, 123, 124, 125, 126, 127, 128, 129, 130, 131, 132, 133, 134, 135, 136, 137, 138, 56, 57, 58, 59, 61, 72, 73, 74, 75, 76, 77, 78, 79, 20, 80, 81, 82, 83, 25, 84, 85, 86, 139, 140, 141, 142, 143, 144, 145, 146, 147, 148, 149, 150, 151, 152, 153, 154, 155, 168, 169, 170, 171, 156, 157, 158, 159, 160, 161, 162, 163, 164, 165, 166, 167] (by rfl) (by rfl)
set_option maxRecDepth 20000 in
theorem gX3_receive_X3_payOtherBills : GoodIn wsX3_receive (wsV RX3 70 RX3 yX3_payOtherBills wsX3_payOtherBills) := goodIn_app (goodIn_r _ [92, 93, 94, 8] (by rfl) (by rfl)) ggX3_receive_X3_payOtherBills
set_option maxRecDepth 20000 in
theorem ggX3_assign_X3_requireReceipt : GoodIn wsX3_assign wsX3_requireReceipt := goodIn_ca (goodIn_r _ [10, 11, 12, 3, 13, 123, 124, 125, 126, 127, 128, 129, 130, 131, 132, 133, 134, 135] (by rfl) (by rfl)) (goodIn_sub (fun _ h => List.mem_cons_of_mem _ (List.mem_append_right _ h)) (by rfl))
set_option maxRecDepth 20000 in
theorem gX3_assign_X3_requireReceipt : GoodIn wsX3_assign (wsV RX3 73 RX3 yX3_requireReceipt wsX3_requireReceipt) := goodIn_app (goodIn_r _ [6, 7, 8, 9] (by rfl) (by rfl)) ggX3_assign_X3_requireReceipt
set_option maxRecDepth 20000 in
theorem ggX3_assign_X3_requireCustomer : GoodIn wsX3_assign wsX3_requireCustomer := goodIn_ca (goodIn_r _ [16, 11, 12] (by rfl) (by rfl)) (goodIn_sub (fun _ h => List.mem_cons_of_mem _ (List.mem_append_right _ h)) (by rfl))
set_option maxRecDepth 20000 in
theorem gX3_assign_X3_requireCustomer : GoodIn wsX3_assign (va_wsS RX3 34 yX3_requireCustomer wsX3_requireCustomer) := goodIn_app (goodIn_r _ [14, 15, 9] (by rfl) (by rfl)) ggX3_assign_X3_requireCustomer
set_option maxRecDepth 20000 in
theorem ggX3_assign_X3_requireNotBounced : GoodIn wsX3_assign wsX3_requireNotBounced := goodIn_ca (goodIn_r _ [20, 1, 2, 3, 21, 123, 124, 125, 126, 127, 128, 129, 130, 131, 132, 133, 134, 135] (by rfl) (by rfl)) (goodIn_sub (fun _ h => List.mem_cons_of_mem _ (List.mem_append_left _ (List.mem_append_right _ h))) (by rfl))
set_option maxRecDepth 20000 in
theorem gX3_assign_X3_requireNotBounced : GoodIn wsX3_assign (wsV RX3 76 RX3 yX3_requireNotBounced wsX3_requireNotBounced) := goodIn_app (goodIn_r _ [17, 18, 19, 9] (by rfl) (by rfl)) ggX3_assign_X3_requireNotBounced
set_option maxRecDepth 20000 in
theorem ggX3_assign_X3_payOtherBills : GoodIn wsX3_assign wsX3_payOtherBills := goodIn_r _ [25, 3, 4, 5, 26, 27, 28, 9, 29, 30, 31, 32, 33, 34, 35, 36, 37, 38, 39, 40, 41, 42, 43, 44, 45, 46, 47, 48, 49, 50, 51, 52, 53, 54, 55, 56, 57, 58, 59, 60, 61, 62, 63, 64, 65, 66, 67, 68, 69, 70, 71, 72, 73, 74, 75, 76, 77, 78, 79, 80, 81, 82, 83, 84, 85, 86, 87, 88, 89, 90, 91, 92, 93, 94, 95, 96, 97, 98, 99, 100, 101, 102, 103, 104, 105, 106, 107, 108, 109, 110, 111, 112, 113, 114, 115, 116, 117, 118, 119, 120, 121, 122, 123, 124, 125, 126, 127, 128, 129, 130, 131, 132, 133, 134, 135, 136, 137, 138, 139, 140, 141, 142, 143, 144, 145, 146, 147, 148, 149, 150, 151] (by rfl) (by rfl)
set_option maxRecDepth 20000 in
theorem gX3_assign_X3_payOtherBills : GoodIn wsX3_assign (wsV RX3 70 RX3 yX3_payOtherBills wsX3_payOtherBills) := goodIn_app (goodIn_r _ [22, 23, 24, 9] (by rfl) (by rfl)) ggX3_assign_X3_payOtherBills
set_option maxRecDepth 20000 in
theorem ggX3_apply_X3_requireReceipt : GoodIn wsX3_apply wsX3_requireReceipt := goodIn_ca (goodIn_r _ [10, 11, 12, 3, 13, 120, 121, 122, 123, 124, 125, 126, 127, 128, 129, 130, 131, 132] (by rfl) (by rfl)) (goodIn_sub (fun _ h => List.mem_cons_of_mem _ (List.mem_append_right _ h)) (by rfl))
set_option maxRecDepth 20000 in
theorem gX3_apply_X3_requireReceipt : GoodIn wsX3_apply (wsV RX3 73 RX3 yX3_requireReceipt wsX3_requireReceipt) := goodIn_app (goodIn_r _ [6, 7, 8, 9] (by rfl) (by rfl)) ggX3_apply_X3_requireReceipt
set_option maxRecDepth 20000 in
theorem ggX3_apply_X3_requireNotBounced : GoodIn wsX3_apply wsX3_requireNotBounced := goodIn_ca (goodIn_r _ [17, 1, 2, 3, 18, 120, 121, 122, 123, 124, 125, 126, 127, 128, 129, 130, 131, 132] (by rfl) (by rfl)) (goodIn_sub (fun _ h => List.mem_cons_of_mem _ (List.mem_append_left _ (List.mem_append_right _ h))) (by rfl))
set_option maxRecDepth 20000 in
theorem gX3_apply_X3_requireNotBounced : GoodIn wsX3_apply (wsV RX3 76 RX3 yX3_requireNotBounced wsX3_requireNotBounced) := goodIn_app (goodIn_r _ [14, 15, 16, 9] (by rfl) (by rfl)) ggX3_apply_X3_requireNotBounced
set_option maxRecDepth 20000 in
theorem ggX3_apply_X3_payOtherBills : GoodIn wsX3_apply wsX3_payOtherBills := goodIn_r _ [22, 3, 4, 5, 23, 24, 25, 9, 26, 27, 28, 29, 30, 31, 32, 33, 34, 35, 36, 37, 38, 39, 40, 41, 42, 43, 44, 45, 46, 47, 48, 49, 50, 51, 52, 53, 54, 55, 56, 57, 58, 59, 60, 61, 62, 63, 64, 65, 66, 67, 68, 69, 70, 71, 72, 73, 74, 75, 76, 77, 78, 79, 80, 81, 82, 83, 84, 85, 86, 87, 88, 89, 90, 91, 92, 93, 94, 95, 96, 97, 98, 99, 100, 101, 102, 103, 104, 105, 106, 107, 108, 109, 110, 111, 112, 113, 114, 115, 116, 117, 118, 119, 120, 121, 122, 123, 124, 125, 126, 127, 128, 129, 130, 131, 132, 133, 134, 135, 136, 137, 138, 139, 140, 141, 142, 143, 144, 145, 146, 147, 148] (by rfl) (by rfl)
set_option maxRecDepth 20000 in
theorem gX3_apply_X3_payOtherBills : GoodIn wsX3_apply (wsV RX3 70 RX3 yX3_payOtherBills wsX3_payOtherBills) := goodIn_app (goodIn_r _ [19, 20, 21, 9] (by rfl) (by rfl)) ggX3_apply_X3_payOtherBills
set_option maxRecDepth 20000 in
theorem ggX3_payBack_X3_requireReceipt : GoodIn wsX3_payBack wsX3_requireReceipt := goodIn_ca (goodIn_r _ [9, 10, 11, 3, 12, 25, 26, 27, 28, 29, 30, 31, 32, 33, 34, 35, 36, 37] (by rfl) (by rfl)) (goodIn_sub (fun _ h => List.mem_cons_of_mem _ (List.mem_append_right _ h)) (by rfl))
set_option maxRecDepth 20000 in
theorem gX3_payBack_X3_requireReceipt : GoodIn wsX3_payBack (wsV RX3 73 RX3 yX3_requireReceipt wsX3_requireReceipt) := goodIn_app (goodIn_r _ [5, 6, 7, 8] (by rfl) (by rfl)) ggX3_payBack_X3_requireReceipt
set_option maxRecDepth 20000 in
theorem ggX3_payBack_X3_requireNotBounced : GoodIn wsX3_payBack wsX3_requireNotBounced := goodIn_ca (goodIn_r _ [16, 1, 2, 3, 17, 25, 26, 27, 28, 29, 30, 31, 32, 33, 34, 35, 36, 37] (by rfl) (by rfl)) (goodIn_sub (fun _ h => List.mem_cons_of_mem _ (List.mem_append_left _ (List.mem_append_right _ h))) (by rfl))
set_option maxRecDepth 20000 in
theorem gX3_payBack_X3_requireNotBounced : GoodIn wsX3_payBack (wsV RX3 76 RX3 yX3_requireNotBounced wsX3_requireNotBounced) := goodIn_app (goodIn_r _ [13, 14, 15, 8] (by rfl) (by rfl)) ggX3_payBack_X3_requireNotBounced
set_option maxRecDepth 20000 in
theorem ggX3_payBack_X2_payBackRest : GoodIn wsX3_payBack wsX2_payBackRest := goodIn_r _ [22, 23, 24, 29, 30, 31, 32, 33, 34, 35, 36, 37] (by rfl) (by rfl)
set_option maxRecDepth 20000 in
theorem gX3_payBack_X2_payBackRest : GoodIn wsX3_payBack (wsV RX3 92 RX2 yX2_payBackRest wsX2_payBackRest) := goodIn_app (goodIn_r _ [18, 19, 20, 21] (by rfl) (by rfl)) ggX3_payBack_X2_payBackRest
set_option maxRecDepth 20000 in
theorem ggX3_bounce_X3_requireReceipt : GoodIn wsX3_bounce wsX3_requireReceipt := goodIn_ca (goodIn_r _ [11, 12, 13, 3, 14, 60, 61, 62, 63, 64, 65, 66, 67, 68, 69, 70, 71, 72] (by rfl) (by rfl)) (goodIn_sub (fun _ h => List.mem_cons_of_mem _ (List.mem_append_right _ h)) (by rfl))
set_option maxRecDepth 20000 in
theorem gX3_bounce_X3_requireReceipt : GoodIn wsX3_bounce (wsV RX3 73 RX3 yX3_requireReceipt wsX3_requireReceipt) := goodIn_app (goodIn_r _ [7, 8, 9, 10] (by rfl) (by rfl)) ggX3_bounce_X3_requireReceipt
set_option maxRecDepth 20000 in
theorem ggX3_bounce_X3_requireNotBounced : GoodIn wsX3_bounce wsX3_requireNotBounced := goodIn_ca (goodIn_r _ [18, 1, 2, 3, 19, 60, 61, 62, 63, 64, 65, 66, 67, 68, 69, 70, 71, 72] (by rfl) (by rfl)) (goodIn_sub (fun _ h => List.mem_cons_of_mem _ (List.mem_append_left _ (List.mem_append_right _ h))) (by rfl))
set_option maxRecDepth 20000 in
theorem gX3_bounce_X3_requireNotBounced : GoodIn wsX3_bounce (wsV RX3 76 RX3 yX3_requireNotBounced wsX3_requireNotBounced) := goodIn_app (goodIn_r _ [15, 16, 17, 10] (by rfl) (by rfl)) ggX3_bounce_X3_requireNotBounced
set_option maxRecDepth 20000 in
theorem ggX3_bounce_X2_hasPaid : GoodIn wsX3_bounce wsX2_hasPaid := goodIn_r _ [24, 25, 26, 27, 23, 28, 64, 65, 66, 67, 68, 69, 70, 71, 72] (by rfl) (by rfl)
set_option maxRecDepth 20000 in
theorem gX3_bounce_X2_hasPaid : GoodIn wsX3_bounce (wsV RX3 101 RX2 yX2_hasPaid wsX2_hasPaid) := goodIn_app (goodIn_r _ [20, 21, 22, 23] (by rfl) (by rfl)) ggX3_bounce_X2_hasPaid
set_option maxRecDepth 20000 in
theorem ggX3_bounce_X2_paidOf : GoodIn wsX3_bounce wsX2_paidOf := goodIn_r _ [32, 33, 26, 27, 23, 28, 64, 65, 66, 67, 68, 69, 70, 71, 72] (by rfl) (by rfl)
set_option maxRecDepth 20000 in
theorem gX3_bounce_X2_paidOf : GoodIn wsX3_bounce (wsV RX3 105 RX2 yX2_paidOf wsX2_paidOf) := goodIn_app (goodIn_r _ [29, 30, 31, 23] (by rfl) (by rfl)) ggX3_bounce_X2_paidOf
set_option maxRecDepth 20000 in
theorem ggX3_bounce_X0_undo : GoodIn wsX3_bounce wsX0_undo := goodIn_r _ [38, 39, 40, 41, 42, 43, 44, 45, 37, 46, 47, 48, 73, 74, 75, 76, 77, 78, 79, 80, 81, 82, 83, 84] (by rfl) (by rfl)
set_option maxRecDepth 20000 in
theorem gX3_bounce_X0_undo : GoodIn wsX3_bounce (wsV RX3 108 RX0 yX0_undo wsX0_undo) := goodIn_app (goodIn_r _ [34, 35, 36, 37] (by rfl) (by rfl)) ggX3_bounce_X0_undo
set_option maxRecDepth 20000 in
theorem ggX3_bounce_X2_dropPayment : GoodIn wsX3_bounce wsX2_dropPayment := goodIn_r _ [52, 53, 33, 25, 26, 27, 23, 28, 64, 65, 66, 67, 68, 69, 70, 71, 72] (by rfl) (by rfl)
set_option maxRecDepth 20000 in
theorem gX3_bounce_X2_dropPayment : GoodIn wsX3_bounce (wsV RX3 111 RX2 yX2_dropPayment wsX2_dropPayment) := goodIn_app (goodIn_r _ [49, 50, 51, 23] (by rfl) (by rfl)) ggX3_bounce_X2_dropPayment
set_option maxRecDepth 20000 in
theorem ggX3_bounce_X2_markBounced : GoodIn wsX3_bounce wsX2_markBounced := goodIn_r _ [57, 58, 59, 64, 65, 66, 67, 68, 69, 70, 71, 72] (by rfl) (by rfl)
set_option maxRecDepth 20000 in
theorem gX3_bounce_X2_markBounced : GoodIn wsX3_bounce (wsV RX3 114 RX2 yX2_markBounced wsX2_markBounced) := goodIn_app (goodIn_r _ [54, 55, 56, 23] (by rfl) (by rfl)) ggX3_bounce_X2_markBounced
set_option maxRecDepth 20000 in
theorem ggX3_settle_X3_requireBill : GoodIn wsX3_settle wsX3_requireBill := goodIn_ca (goodIn_r _ [9, 10, 11, 3, 12, 21, 22, 23, 24, 25, 26, 27, 28, 29, 30, 31, 32, 33, 34, 35, 36] (by rfl) (by rfl)) (goodIn_sub (fun _ h => List.mem_cons_of_mem _ (List.mem_append_right _ h)) (by rfl))
set_option maxRecDepth 20000 in
theorem gX3_settle_X3_requireBill : GoodIn wsX3_settle (wsV RX3 117 RX3 yX3_requireBill wsX3_requireBill) := goodIn_app (goodIn_r _ [5, 6, 7, 8] (by rfl) (by rfl)) ggX3_settle_X3_requireBill
set_option maxRecDepth 20000 in
theorem ggX3_settle_X0_endDispute : GoodIn wsX3_settle wsX0_endDispute := goodIn_r _ [17, 18, 19, 20, 25, 26, 27, 28, 29, 30, 31, 32, 33, 34, 35, 36] (by rfl) (by rfl)
set_option maxRecDepth 20000 in
theorem gX3_settle_X0_endDispute : GoodIn wsX3_settle (wsV RX3 125 RX0 yX0_endDispute wsX0_endDispute) := goodIn_app (goodIn_r _ [13, 14, 15, 16] (by rfl) (by rfl)) ggX3_settle_X0_endDispute
set_option maxRecDepth 20000 in
theorem ggX3_advance_X3_requireWithin : GoodIn wsX3_advance wsX3_requireWithin := goodIn_ca (goodIn_r _ [5, 6, 7] (by rfl) (by rfl)) (goodIn_sub (fun _ h => List.mem_cons_of_mem _ (List.mem_append_right _ h)) (by rfl))
set_option maxRecDepth 20000 in
theorem gX3_advance_X3_requireWithin : GoodIn wsX3_advance (va_wsS RX3 39 yX3_requireWithin wsX3_requireWithin) := goodIn_app (goodIn_r _ [2, 3, 4] (by rfl) (by rfl)) ggX3_advance_X3_requireWithin
set_option maxRecDepth 20000 in
theorem ggX3_open_X3_requireBill : GoodIn wsX3_open wsX3_requireBill := goodIn_ca (goodIn_r _ [6, 7, 8, 1, 9, 20, 21, 22, 23, 24, 25, 26, 27, 28, 29, 30, 31, 32, 33, 34, 35] (by rfl) (by rfl)) (goodIn_sub (fun _ h => List.mem_cons_of_mem _ (List.mem_append_right _ h)) (by rfl))
set_option maxRecDepth 20000 in
theorem gX3_open_X3_requireBill : GoodIn wsX3_open (wsV RX3 117 RX3 yX3_requireBill wsX3_requireBill) := goodIn_app (goodIn_r _ [2, 3, 4, 5] (by rfl) (by rfl)) ggX3_open_X3_requireBill
set_option maxRecDepth 20000 in
theorem ggX3_open_X0_openSum : GoodIn wsX3_open wsX0_openSum := goodIn_r _ [14, 15, 16, 17, 18, 19, 24, 25, 26, 27, 28, 29, 30, 31, 32, 33, 34, 35] (by rfl) (by rfl)
set_option maxRecDepth 20000 in
theorem gX3_open_X0_openSum : GoodIn wsX3_open (wsV RX3 129 RX0 yX0_openSum wsX0_openSum) := goodIn_app (goodIn_r _ [10, 11, 12, 13] (by rfl) (by rfl)) ggX3_open_X0_openSum
set_option maxRecDepth 20000 in
theorem ggX3_due_X3_requireBill : GoodIn wsX3_due wsX3_requireBill := goodIn_ca (goodIn_r _ [7, 8, 9, 1, 10, 31, 32, 33, 34, 35, 36, 37, 38, 39, 40, 41, 42, 43, 44, 45, 46] (by rfl) (by rfl)) (goodIn_sub (fun _ h => List.mem_cons_of_mem _ (List.mem_append_right _ h)) (by rfl))
set_option maxRecDepth 20000 in
theorem gX3_due_X3_requireBill : GoodIn wsX3_due (wsV RX3 117 RX3 yX3_requireBill wsX3_requireBill) := goodIn_app (goodIn_r _ [3, 4, 5, 6] (by rfl) (by rfl)) ggX3_due_X3_requireBill
set_option maxRecDepth 20000 in
theorem ggX3_due_X0_dueOn : GoodIn wsX3_due wsX0_dueOn := goodIn_r _ [15, 16, 17, 18, 19, 14, 20, 21, 22, 23, 24, 25, 26, 27, 28, 29, 30, 35, 36, 37, 38, 39, 40, 41, 42, 43, 44, 45, 46] (by rfl) (by rfl)
set_option maxRecDepth 20000 in
theorem gX3_due_X0_dueOn : GoodIn wsX3_due (wsV RX3 132 RX0 yX0_dueOn wsX0_dueOn) := goodIn_app (goodIn_r _ [11, 12, 13, 14] (by rfl) (by rfl)) ggX3_due_X0_dueOn
set_option maxRecDepth 20000 in
theorem ggX3_paid_X3_requireBill : GoodIn wsX3_paid wsX3_requireBill := goodIn_ca (goodIn_r _ [7, 8, 9, 1, 10, 11, 12, 13, 14, 15, 16, 17, 18, 19, 20, 21, 22, 23, 24, 25, 26] (by rfl) (by rfl)) (goodIn_sub (fun _ h => List.mem_cons_of_mem _ (List.mem_append_right _ h)) (by rfl))
set_option maxRecDepth 20000 in
theorem gX3_paid_X3_requireBill : GoodIn wsX3_paid (wsV RX3 117 RX3 yX3_requireBill wsX3_requireBill) := goodIn_app (goodIn_r _ [3, 4, 5, 6] (by rfl) (by rfl)) ggX3_paid_X3_requireBill
set_option maxRecDepth 20000 in
theorem ggX3_taken_X3_requireBill : GoodIn wsX3_taken wsX3_requireBill := goodIn_ca (goodIn_r _ [7, 8, 9, 1, 10, 11, 12, 13, 14, 15, 16, 17, 18, 19, 20, 21, 22, 23, 24, 25, 26] (by rfl) (by rfl)) (goodIn_sub (fun _ h => List.mem_cons_of_mem _ (List.mem_append_right _ h)) (by rfl))
set_option maxRecDepth 20000 in
theorem gX3_taken_X3_requireBill : GoodIn wsX3_taken (wsV RX3 117 RX3 yX3_requireBill wsX3_requireBill) := goodIn_app (goodIn_r _ [3, 4, 5, 6] (by rfl) (by rfl)) ggX3_taken_X3_requireBill
set_option maxRecDepth 20000 in
theorem ggX3_disputed_X3_requireBill : GoodIn wsX3_disputed wsX3_requireBill := goodIn_ca (goodIn_r _ [7, 8, 9, 1, 10, 11, 12, 13, 14, 15, 16, 17, 18, 19, 20, 21, 22, 23, 24, 25, 26] (by rfl) (by rfl)) (goodIn_sub (fun _ h => List.mem_cons_of_mem _ (List.mem_append_right _ h)) (by rfl))
set_option maxRecDepth 20000 in
theorem gX3_disputed_X3_requireBill : GoodIn wsX3_disputed (wsV RX3 117 RX3 yX3_requireBill wsX3_requireBill) := goodIn_app (goodIn_r _ [3, 4, 5, 6] (by rfl) (by rfl)) ggX3_disputed_X3_requireBill
set_option maxRecDepth 20000 in
theorem ggX3_writtenOff_X3_requireBill : GoodIn wsX3_writtenOff wsX3_requireBill := goodIn_ca (goodIn_r _ [7, 8, 9, 1, 10, 11, 12, 13, 14, 15, 16, 17, 18, 19, 20, 21, 22, 23, 24, 25, 26] (by rfl) (by rfl)) (goodIn_sub (fun _ h => List.mem_cons_of_mem _ (List.mem_append_right _ h)) (by rfl))
set_option maxRecDepth 20000 in
theorem gX3_writtenOff_X3_requireBill : GoodIn wsX3_writtenOff (wsV RX3 117 RX3 yX3_requireBill wsX3_requireBill) := goodIn_app (goodIn_r _ [3, 4, 5, 6] (by rfl) (by rfl)) ggX3_writtenOff_X3_requireBill
set_option maxRecDepth 20000 in
theorem ggX3_openOf_X3_requireCustomer : GoodIn wsX3_openOf wsX3_requireCustomer := goodIn_ca (goodIn_r _ [7, 8, 9] (by rfl) (by rfl)) (goodIn_sub (fun _ h => List.mem_cons_of_mem _ (List.mem_append_right _ h)) (by rfl))
set_option maxRecDepth 20000 in
theorem gX3_openOf_X3_requireCustomer : GoodIn wsX3_openOf (va_wsS RX3 34 yX3_requireCustomer wsX3_requireCustomer) := goodIn_app (goodIn_r _ [4, 5, 6] (by rfl) (by rfl)) ggX3_openOf_X3_requireCustomer
set_option maxRecDepth 20000 in
theorem ggX3_openOf_X0_openSum : GoodIn wsX3_openOf wsX0_openSum := goodIn_r _ [14, 15, 16, 17, 18, 19, 24, 25, 26, 27, 28, 29, 30, 31, 32, 33, 34, 35] (by rfl) (by rfl)
set_option maxRecDepth 20000 in
theorem gX3_openOf_X0_openSum : GoodIn wsX3_openOf (wsV RX3 129 RX0 yX0_openSum wsX0_openSum) := goodIn_app (goodIn_r _ [10, 11, 12, 13] (by rfl) (by rfl)) ggX3_openOf_X0_openSum
set_option maxRecDepth 20000 in
theorem ggX3_setFor_X3_requireCustomer : GoodIn wsX3_setFor wsX3_requireCustomer := goodIn_ca (goodIn_r _ [10, 1, 2] (by rfl) (by rfl)) (goodIn_sub (fun _ h => List.mem_cons_of_mem _ (List.mem_append_left _ (List.mem_append_right _ h))) (by rfl))
set_option maxRecDepth 20000 in
theorem gX3_setFor_X3_requireCustomer : GoodIn wsX3_setFor (va_wsS RX3 34 yX3_requireCustomer wsX3_requireCustomer) := goodIn_app (goodIn_r _ [7, 8, 9] (by rfl) (by rfl)) ggX3_setFor_X3_requireCustomer
set_option maxRecDepth 20000 in
theorem ggX3_setFor_X3_chooseExactSet : GoodIn wsX3_setFor wsX3_chooseExactSet := goodIn_r _ [14, 5, 15, 16, 17, 18, 19, 20, 21, 22, 23, 24, 25, 26, 27, 28, 29, 30, 31, 32, 33, 34, 35, 36, 37, 38, 39, 40, 41, 42, 43, 44, 45, 46, 47, 48, 49, 50, 51, 52, 53, 54, 55, 56, 57, 58, 59, 60, 61, 62, 63, 64, 65, 66, 67, 68, 69, 70, 71, 72, 73, 74, 75, 76, 77, 78, 79, 84, 85, 86, 87, 88, 89, 90, 91, 92, 93, 94, 95, 80, 81, 82, 83] (by rfl) (by rfl)
set_option maxRecDepth 20000 in
theorem gX3_setFor_X3_chooseExactSet : GoodIn wsX3_setFor (wsV RX3 155 RX3 yX3_chooseExactSet wsX3_chooseExactSet) := goodIn_app (goodIn_r _ [11, 12, 13, 9] (by rfl) (by rfl)) ggX3_setFor_X3_chooseExactSet
set_option maxRecDepth 20000 in
theorem ggX3_customerOf_X3_requireReceipt : GoodIn wsX3_customerOf wsX3_requireReceipt := goodIn_ca (goodIn_r _ [7, 8, 9, 1, 10, 11, 12, 13, 14, 15, 16, 17, 18, 19, 20, 21, 22, 23] (by rfl) (by rfl)) (goodIn_sub (fun _ h => List.mem_cons_of_mem _ (List.mem_append_right _ h)) (by rfl))
set_option maxRecDepth 20000 in
theorem gX3_customerOf_X3_requireReceipt : GoodIn wsX3_customerOf (wsV RX3 73 RX3 yX3_requireReceipt wsX3_requireReceipt) := goodIn_app (goodIn_r _ [3, 4, 5, 6] (by rfl) (by rfl)) ggX3_customerOf_X3_requireReceipt
set_option maxRecDepth 20000 in
theorem ggX3_appliedTo_X3_requireReceipt : GoodIn wsX3_appliedTo wsX3_requireReceipt := goodIn_ca (goodIn_r _ [6, 7, 8, 1, 9, 25, 26, 27, 28, 29, 30, 31, 32, 33, 34, 35, 36, 37] (by rfl) (by rfl)) (goodIn_sub (fun _ h => List.mem_cons_of_mem _ (List.mem_append_right _ h)) (by rfl))
set_option maxRecDepth 20000 in
theorem gX3_appliedTo_X3_requireReceipt : GoodIn wsX3_appliedTo (wsV RX3 73 RX3 yX3_requireReceipt wsX3_requireReceipt) := goodIn_app (goodIn_r _ [2, 3, 4, 5] (by rfl) (by rfl)) ggX3_appliedTo_X3_requireReceipt
set_option maxRecDepth 20000 in
theorem ggX3_appliedTo_X3_requireBill : GoodIn wsX3_appliedTo wsX3_requireBill := goodIn_ca (goodIn_r _ [13, 7, 8, 14, 15, 25, 26, 27, 28, 38, 39, 40, 41, 42, 43, 44, 45, 46, 47, 48, 49] (by rfl) (by rfl)) (goodIn_sub (fun _ h => List.mem_cons_of_mem _ (List.mem_append_right _ h)) (by rfl))
set_option maxRecDepth 20000 in
theorem gX3_appliedTo_X3_requireBill : GoodIn wsX3_appliedTo (wsV RX3 117 RX3 yX3_requireBill wsX3_requireBill) := goodIn_app (goodIn_r _ [10, 11, 12, 5] (by rfl) (by rfl)) ggX3_appliedTo_X3_requireBill
set_option maxRecDepth 20000 in
theorem ggX3_appliedTo_X2_paidOf : GoodIn wsX3_appliedTo wsX2_paidOf := goodIn_r _ [20, 21, 22, 23, 19, 24, 29, 30, 31, 32, 33, 34, 35, 36, 37] (by rfl) (by rfl)
set_option maxRecDepth 20000 in
theorem gX3_appliedTo_X2_paidOf : GoodIn wsX3_appliedTo (wsV RX3 105 RX2 yX2_paidOf wsX2_paidOf) := goodIn_app (goodIn_r _ [16, 17, 18, 19] (by rfl) (by rfl)) ggX3_appliedTo_X2_paidOf
set_option maxRecDepth 20000 in
theorem ggX3_unapplied_X3_requireReceipt : GoodIn wsX3_unapplied wsX3_requireReceipt := goodIn_ca (goodIn_r _ [7, 8, 9, 1, 10, 11, 12, 13, 14, 15, 16, 17, 18, 19, 20, 21, 22, 23] (by rfl) (by rfl)) (goodIn_sub (fun _ h => List.mem_cons_of_mem _ (List.mem_append_right _ h)) (by rfl))
set_option maxRecDepth 20000 in
theorem gX3_unapplied_X3_requireReceipt : GoodIn wsX3_unapplied (wsV RX3 73 RX3 yX3_requireReceipt wsX3_requireReceipt) := goodIn_app (goodIn_r _ [3, 4, 5, 6] (by rfl) (by rfl)) ggX3_unapplied_X3_requireReceipt
set_option maxRecDepth 20000 in
theorem ggX3_hasBounced_X3_requireReceipt : GoodIn wsX3_hasBounced wsX3_requireReceipt := goodIn_ca (goodIn_r _ [7, 8, 9, 1, 10, 11, 12, 13, 14, 15, 16, 17, 18, 19, 20, 21, 22, 23] (by rfl) (by rfl)) (goodIn_sub (fun _ h => List.mem_cons_of_mem _ (List.mem_append_right _ h)) (by rfl))
set_option maxRecDepth 20000 in
theorem gX3_hasBounced_X3_requireReceipt : GoodIn wsX3_hasBounced (wsV RX3 73 RX3 yX3_requireReceipt wsX3_requireReceipt) := goodIn_app (goodIn_r _ [3, 4, 5, 6] (by rfl) (by rfl)) ggX3_hasBounced_X3_requireReceipt
set_option maxRecDepth 20000 in
theorem ggX3_received_X2_totalOf : GoodIn wsX3_received wsX2_totalOf := goodIn_r _ [7, 8, 13, 14, 15, 16, 17, 18, 19, 20, 21] (by rfl) (by rfl)
set_option maxRecDepth 20000 in
theorem gX3_received_X2_totalOf : GoodIn wsX3_received (wsV RX3 168 RX2 yX2_totalOf wsX2_totalOf) := goodIn_app (goodIn_r _ [3, 4, 5, 6] (by rfl) (by rfl)) ggX3_received_X2_totalOf
set_option maxRecDepth 20000 in
theorem ggX3_applied_X2_totalOf : GoodIn wsX3_applied wsX2_totalOf := goodIn_r _ [7, 8, 13, 14, 15, 16, 17, 18, 19, 20, 21] (by rfl) (by rfl)
set_option maxRecDepth 20000 in
theorem gX3_applied_X2_totalOf : GoodIn wsX3_applied (wsV RX3 168 RX2 yX2_totalOf wsX2_totalOf) := goodIn_app (goodIn_r _ [3, 4, 5, 6] (by rfl) (by rfl)) ggX3_applied_X2_totalOf
set_option maxRecDepth 20000 in
theorem ggX3_allUnapplied_X2_totalOf : GoodIn wsX3_allUnapplied wsX2_totalOf := goodIn_r _ [7, 8, 13, 14, 15, 16, 17, 18, 19, 20, 21] (by rfl) (by rfl)
set_option maxRecDepth 20000 in
theorem gX3_allUnapplied_X2_totalOf : GoodIn wsX3_allUnapplied (wsV RX3 168 RX2 yX2_totalOf wsX2_totalOf) := goodIn_app (goodIn_r _ [3, 4, 5, 6] (by rfl) (by rfl)) ggX3_allUnapplied_X2_totalOf
set_option maxRecDepth 20000 in
theorem ggX3_paidBack_X2_totalOf : GoodIn wsX3_paidBack wsX2_totalOf := goodIn_r _ [7, 8, 13, 14, 15, 16, 17, 18, 19, 20, 21] (by rfl) (by rfl)
set_option maxRecDepth 20000 in
theorem gX3_paidBack_X2_totalOf : GoodIn wsX3_paidBack (wsV RX3 168 RX2 yX2_totalOf wsX2_totalOf) := goodIn_app (goodIn_r _ [3, 4, 5, 6] (by rfl) (by rfl)) ggX3_paidBack_X2_totalOf
set_option maxRecDepth 20000 in
theorem ggX3_bounced_X2_bouncedTotal : GoodIn wsX3_bounced wsX2_bouncedTotal := goodIn_r _ [6, 7, 8, 9, 14, 15, 16, 17, 18, 19, 20, 21, 22] (by rfl) (by rfl)
set_option maxRecDepth 20000 in
theorem gX3_bounced_X2_bouncedTotal : GoodIn wsX3_bounced (wsV RX3 175 RX2 yX2_bouncedTotal wsX2_bouncedTotal) := goodIn_app (goodIn_r _ [2, 3, 4, 5] (by rfl) (by rfl)) ggX3_bounced_X2_bouncedTotal
set_option maxRecDepth 20000 in
theorem ggX3_payNamedBills_X0_customerNamedBy : GoodIn wsX3_payNamedBills wsX0_customerNamedBy := goodIn_r _ [11, 12, 13, 14, 15, 16, 17, 10, 18, 19, 20, 21, 22, 23, 80, 81, 82, 83, 84, 85, 86, 87, 88, 89, 90, 91] (by rfl) (by rfl)
set_option maxRecDepth 20000 in
theorem gX3_payNamedBills_X0_customerNamedBy : GoodIn wsX3_payNamedBills (wsV RX3 179 RX0 yX0_customerNamedBy wsX0_customerNamedBy) := goodIn_app (goodIn_r _ [7, 8, 9, 10] (by rfl) (by rfl)) ggX3_payNamedBills_X0_customerNamedBy
set_option maxRecDepth 20000 in
theorem ggX3_payNamedBills_X0_isOpenFor : GoodIn wsX3_payNamedBills wsX0_isOpenFor := goodIn_r _ [27, 14, 15, 16, 17, 10, 18, 19, 20, 21, 22, 23, 80, 81, 82, 83, 84, 85, 86, 87, 88, 89, 90, 91] (by rfl) (by rfl)
set_option maxRecDepth 20000 in
theorem gX3_payNamedBills_X0_isOpenFor : GoodIn wsX3_payNamedBills (wsV RX3 182 RX0 yX0_isOpenFor wsX0_isOpenFor) := goodIn_app (goodIn_r _ [24, 25, 26, 10] (by rfl) (by rfl)) ggX3_payNamedBills_X0_isOpenFor
set_option maxRecDepth 20000 in
theorem ggX3_payNamedBills_X3_payBill : GoodIn wsX3_payNamedBills wsX3_payBill := goodIn_r _ [32, 3, 33, 1, 5, 34, 35, 36, 37, 10, 38, 39, 15, 16, 17, 18, 19, 20, 21, 22, 23, 40, 41, 42, 43, 44, 45, 46, 47, 48, 49, 50, 51, 52, 53, 54, 55, 56, 57, 58, 59, 60, 61, 67, 68, 69, 70, 71, 72, 73, 74, 75, 76, 77, 78, 79, 80, 81, 82, 83, 84, 85, 86, 87, 88, 89, 90, 91] (by rfl) (by rfl)
set_option maxRecDepth 20000 in
theorem gX3_payNamedBills_X3_payBill : GoodIn wsX3_payNamedBills (wsV RX3 188 RX3 yX3_payBill wsX3_payBill) := goodIn_app (goodIn_r _ [28, 29, 30, 31] (by rfl) (by rfl)) ggX3_payNamedBills_X3_payBill
set_option maxRecDepth 20000 in
theorem ggX3_payNamedBills_X0_disputeRest : GoodIn wsX3_payNamedBills wsX0_disputeRest := goodIn_r _ [65, 22, 66, 15, 16, 17, 10, 18, 19, 20, 21, 23, 80, 81, 82, 83, 84, 85, 86, 87, 88, 89, 90, 91] (by rfl) (by rfl)
set_option maxRecDepth 20000 in
theorem gX3_payNamedBills_X0_disputeRest : GoodIn wsX3_payNamedBills (wsV RX3 191 RX0 yX0_disputeRest wsX0_disputeRest) := goodIn_app (goodIn_r _ [62, 63, 64, 10] (by rfl) (by rfl)) ggX3_payNamedBills_X0_disputeRest
set_option maxRecDepth 20000 in
theorem ggX3_payOtherBills_X3_payExactSet : GoodIn wsX3_payOtherBills wsX3_payExactSet := goodIn_r _ [8, 1, 2, 3, 9, 10, 11, 12, 13, 14, 15, 7, 16, 17, 18, 19, 20, 21, 22, 23, 24, 25, 26, 27, 28, 29, 30, 31, 32, 33, 34, 35, 36, 37, 38, 39, 40, 41, 42, 43, 44, 45, 46, 47, 48, 49, 50, 51, 52, 53, 54, 55, 56, 57, 58, 59, 60, 61, 62, 63, 64, 65, 66, 67, 68, 69, 70, 71, 72, 73, 74, 75, 76, 77, 78, 79, 80, 81, 82, 83, 84, 85, 86, 87, 88, 89, 90, 91, 92, 93, 94, 95, 96, 97, 102, 103, 104, 105, 106, 107, 108, 109, 110, 111, 112, 113, 114, 115, 116, 117, 118, 119, 120, 121, 122, 123, 124, 125, 126, 127, 128, 129, 130] (by rfl) (by rfl)
set_option maxRecDepth 20000 in
theorem gX3_payOtherBills_X3_payExactSet : GoodIn wsX3_payOtherBills (wsV RX3 194 RX3 yX3_payExactSet wsX3_payExactSet) := goodIn_app (goodIn_r _ [4, 5, 6, 7] (by rfl) (by rfl)) ggX3_payOtherBills_X3_payExactSet
set_option maxRecDepth 20000 in
theorem ggX3_payOtherBills_X3_payOldestBills : GoodIn wsX3_payOtherBills wsX3_payOldestBills := goodIn_r _ [101, 1, 2, 11, 12, 3, 25, 26, 27, 28, 29, 30, 31, 32, 33, 34, 35, 36, 37, 38, 39, 76, 77, 78, 7, 79, 17, 80, 40, 41, 42, 43, 44, 45, 46, 47, 48, 49, 81, 82, 83, 84, 85, 86, 87, 88, 89, 90, 91, 92, 93, 94, 95, 96, 97, 102, 103, 104, 105, 106, 107, 108, 109, 110, 111, 112, 113, 114, 119, 120, 121, 122, 123, 124, 125, 126, 127, 128, 129, 130] (by rfl) (by rfl)
set_option maxRecDepth 20000 in
theorem gX3_payOtherBills_X3_payOldestBills : GoodIn wsX3_payOtherBills (wsV RX3 197 RX3 yX3_payOldestBills wsX3_payOldestBills) := goodIn_app (goodIn_r _ [98, 99, 100, 7] (by rfl) (by rfl)) ggX3_payOtherBills_X3_payOldestBills
set_option maxRecDepth 20000 in
theorem ggX3_payExactSet_X3_chooseExactSet : GoodIn wsX3_payExactSet wsX3_chooseExactSet := goodIn_r _ [12, 4, 6, 7, 13, 14, 15, 16, 17, 18, 19, 20, 21, 22, 23, 24, 25, 26, 27, 28, 29, 30, 31, 32, 33, 34, 35, 36, 37, 38, 39, 40, 41, 42, 43, 44, 45, 46, 47, 48, 49, 50, 51, 52, 53, 54, 55, 56, 57, 58, 59, 60, 61, 62, 63, 64, 65, 66, 67, 68, 69, 70, 71, 94, 95, 96, 97, 111, 112, 113, 114, 115, 116, 117, 118, 119, 120, 121, 122, 107, 108, 109, 110] (by rfl) (by rfl)
set_option maxRecDepth 20000 in
theorem gX3_payExactSet_X3_chooseExactSet : GoodIn wsX3_payExactSet (wsV RX3 155 RX3 yX3_chooseExactSet wsX3_chooseExactSet) := goodIn_app (goodIn_r _ [8, 9, 10, 11] (by rfl) (by rfl)) ggX3_payExactSet_X3_chooseExactSet
set_option maxRecDepth 20000 in
theorem ggX3_payExactSet_X3_payBill : GoodIn wsX3_payExactSet wsX3_payBill := goodIn_r _ [75, 6, 13, 1, 3, 76, 36, 37, 38, 24, 39, 40, 27, 28, 29, 30, 31, 32, 33, 34, 35, 41, 42, 43, 44, 45, 77, 78, 79, 80, 81, 82, 83, 84, 85, 86, 87, 88, 89, 90, 91, 92, 93, 94, 95, 96, 97, 98, 99, 100, 101, 102, 103, 104, 105, 106, 111, 112, 113, 114, 115, 116, 117, 118, 119, 120, 121, 122] (by rfl) (by rfl)
set_option maxRecDepth 20000 in
theorem gX3_payExactSet_X3_payBill : GoodIn wsX3_payExactSet (wsV RX3 188 RX3 yX3_payBill wsX3_payBill) := goodIn_app (goodIn_r _ [72, 73, 74, 11] (by rfl) (by rfl)) ggX3_payExactSet_X3_payBill
set_option maxRecDepth 20000 in
theorem ggX3_payOldestBills_X0_isOpenFor : GoodIn wsX3_payOldestBills wsX0_isOpenFor := goodIn_r _ [10, 11, 12, 13, 14, 9, 15, 16, 17, 18, 19, 20, 68, 69, 70, 71, 72, 73, 74, 75, 76, 77, 78, 79] (by rfl) (by rfl)
set_option maxRecDepth 20000 in
theorem gX3_payOldestBills_X0_isOpenFor : GoodIn wsX3_payOldestBills (wsV RX3 182 RX0 yX0_isOpenFor wsX0_isOpenFor) := goodIn_app (goodIn_r _ [6, 7, 8, 9] (by rfl) (by rfl)) ggX3_payOldestBills_X0_isOpenFor
set_option maxRecDepth 20000 in
theorem ggX3_payOldestBills_X3_payBill : GoodIn wsX3_payOldestBills wsX3_payBill := goodIn_r _ [25, 3, 26, 1, 5, 27, 28, 29, 30, 9, 31, 32, 12, 13, 14, 15, 16, 17, 18, 19, 20, 33, 34, 35, 36, 37, 38, 39, 40, 41, 42, 43, 44, 45, 46, 47, 48, 49, 50, 51, 52, 53, 54, 55, 56, 57, 58, 59, 60, 61, 62, 63, 64, 65, 66, 67, 68, 69, 70, 71, 72, 73, 74, 75, 76, 77, 78, 79] (by rfl) (by rfl)
set_option maxRecDepth 20000 in
theorem gX3_payOldestBills_X3_payBill : GoodIn wsX3_payOldestBills (wsV RX3 188 RX3 yX3_payBill wsX3_payBill) := goodIn_app (goodIn_r _ [21, 22, 23, 24] (by rfl) (by rfl)) ggX3_payOldestBills_X3_payBill
set_option maxRecDepth 20000 in
theorem ggX3_payBill_X0_dueOn : GoodIn wsX3_payBill wsX0_dueOn := goodIn_r _ [10, 11, 12, 13, 14, 9, 15, 16, 17, 18, 19, 20, 21, 22, 23, 24, 25, 56, 57, 58, 59, 60, 61, 62, 63, 64, 65, 66, 67] (by rfl) (by rfl)
set_option maxRecDepth 20000 in
theorem gX3_payBill_X0_dueOn : GoodIn wsX3_payBill (wsV RX3 132 RX0 yX0_dueOn wsX0_dueOn) := goodIn_app (goodIn_r _ [6, 7, 8, 9] (by rfl) (by rfl)) ggX3_payBill_X0_dueOn
set_option maxRecDepth 20000 in
theorem ggX3_payBill_X0_takeDiscount : GoodIn wsX3_payBill wsX0_takeDiscount := goodIn_r _ [29, 18, 11, 30, 21, 22, 23, 9, 24, 16, 25, 12, 13, 14, 15, 17, 19, 20, 56, 57, 58, 59, 60, 61, 62, 63, 64, 65, 66, 67] (by rfl) (by rfl)
set_option maxRecDepth 20000 in
theorem gX3_payBill_X0_takeDiscount : GoodIn wsX3_payBill (wsV RX3 200 RX0 yX0_takeDiscount wsX0_takeDiscount) := goodIn_app (goodIn_r _ [26, 27, 28, 9] (by rfl) (by rfl)) ggX3_payBill_X0_takeDiscount
set_option maxRecDepth 20000 in
theorem ggX3_payBill_X2_addPayment : GoodIn wsX3_payBill wsX2_addPayment := goodIn_r _ [35, 36, 37, 38, 39, 40, 41, 34, 42, 47, 48, 49, 50, 51, 52, 53, 54, 55] (by rfl) (by rfl)
set_option maxRecDepth 20000 in
theorem gX3_payBill_X2_addPayment : GoodIn wsX3_payBill (wsV RX3 203 RX2 yX2_addPayment wsX2_addPayment) := goodIn_app (goodIn_r _ [31, 32, 33, 34] (by rfl) (by rfl)) ggX3_payBill_X2_addPayment
set_option maxRecDepth 20000 in
theorem ggX3_chooseExactSet_X1_clear : GoodIn wsX3_chooseExactSet wsX1_clear := goodIn_r _ [9, 10, 11, 79, 80, 81, 82] (by rfl) (by rfl)
set_option maxRecDepth 20000 in
theorem gX3_chooseExactSet_X1_clear : GoodIn wsX3_chooseExactSet (wsV RX3 206 RX1 yX1_clear wsX1_clear) := goodIn_app (goodIn_r _ [5, 6, 7, 8] (by rfl) (by rfl)) ggX3_chooseExactSet_X1_clear
set_option maxRecDepth 20000 in
theorem ggX3_chooseExactSet_X0_isOpenFor : GoodIn wsX3_chooseExactSet wsX0_isOpenFor := goodIn_r _ [16, 17, 18, 19, 20, 15, 21, 22, 23, 24, 25, 26, 67, 68, 69, 70, 71, 72, 73, 74, 75, 76, 77, 78] (by rfl) (by rfl)
set_option maxRecDepth 20000 in
theorem gX3_chooseExactSet_X0_isOpenFor : GoodIn wsX3_chooseExactSet (wsV RX3 182 RX0 yX0_isOpenFor wsX0_isOpenFor) := goodIn_app (goodIn_r _ [12, 13, 14, 15] (by rfl) (by rfl)) ggX3_chooseExactSet_X0_isOpenFor
set_option maxRecDepth 20000 in
theorem ggX3_chooseExactSet_X0_dueOn : GoodIn wsX3_chooseExactSet wsX0_dueOn := goodIn_r _ [30, 31, 18, 19, 20, 15, 21, 22, 23, 24, 25, 26, 32, 33, 34, 35, 36, 67, 68, 69, 70, 71, 72, 73, 74, 75, 76, 77, 78] (by rfl) (by rfl)
set_option maxRecDepth 20000 in
theorem gX3_chooseExactSet_X0_dueOn : GoodIn wsX3_chooseExactSet (wsV RX3 132 RX0 yX0_dueOn wsX0_dueOn) := goodIn_app (goodIn_r _ [27, 28, 29, 15] (by rfl) (by rfl)) ggX3_chooseExactSet_X0_dueOn
set_option maxRecDepth 20000 in
theorem ggX3_chooseExactSet_X1_offer : GoodIn wsX3_chooseExactSet wsX1_offer := goodIn_r _ [40, 10, 41, 42, 79, 80, 81, 82] (by rfl) (by rfl)
set_option maxRecDepth 20000 in
theorem gX3_chooseExactSet_X1_offer : GoodIn wsX3_chooseExactSet (wsV RX3 209 RX1 yX1_offer wsX1_offer) := goodIn_app (goodIn_r _ [37, 38, 39, 8] (by rfl) (by rfl)) ggX3_chooseExactSet_X1_offer
set_option maxRecDepth 20000 in
theorem ggX3_chooseExactSet_X1_choose : GoodIn wsX3_chooseExactSet wsX1_choose := goodIn_r _ [46, 47, 48, 49, 8, 50, 11, 41, 51, 52, 53, 54, 10, 42, 55, 56, 57, 58, 59, 60, 61, 62, 79, 80, 81, 82] (by rfl) (by rfl)
set_option maxRecDepth 20000 in
theorem gX3_chooseExactSet_X1_choose : GoodIn wsX3_chooseExactSet (wsV RX3 212 RX1 yX1_choose wsX1_choose) := goodIn_app (goodIn_r _ [43, 44, 45, 8] (by rfl) (by rfl)) ggX3_chooseExactSet_X1_choose
