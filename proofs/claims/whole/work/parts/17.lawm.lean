theorem dL_bill_0 : decode cL_bill 0 = .ok (.aload 6, 2) := by decide +kernel
theorem dL_bill_2 : decode cL_bill 2 = .ok (.iconst 0, 1) := by decide +kernel
theorem dL_bill_3 : decode cL_bill 3 = .ok (.aload_n 0, 1) := by decide +kernel
theorem dL_bill_4 : decode cL_bill 4 = .ok (.iload_n 1, 1) := by decide +kernel
theorem dL_bill_5 : decode cL_bill 5 = .ok (.iload_n 2, 1) := by decide +kernel
theorem dL_bill_6 : decode cL_bill 6 = .ok (.iload_n 3, 1) := by decide +kernel
theorem dL_bill_7 : decode cL_bill 7 = .ok (.iload 4, 2) := by decide +kernel
theorem dL_bill_9 : decode cL_bill 9 = .ok (.iload 5, 2) := by decide +kernel
theorem dL_bill_11 : decode cL_bill 11 = .ok (.invokevirtual 7, 3) := by decide +kernel
theorem dL_bill_14 : decode cL_bill 14 = .ok (.i2l, 1) := by decide +kernel
theorem dL_bill_15 : decode cL_bill 15 = .ok (.lastore, 1) := by decide +kernel
theorem dL_bill_16 : decode cL_bill 16 = .ok (.goto 15, 3) := by decide +kernel
theorem dL_bill_19 : decode cL_bill 19 = .ok (.astore 7, 2) := by decide +kernel
theorem dL_bill_21 : decode cL_bill 21 = .ok (.iconst 1, 1) := by decide +kernel
theorem dL_bill_22 : decode cL_bill 22 = .ok (.ireturn, 1) := by decide +kernel
theorem dL_bill_23 : decode cL_bill 23 = .ok (.astore 7, 2) := by decide +kernel
theorem dL_bill_25 : decode cL_bill 25 = .ok (.iconst 2, 1) := by decide +kernel
theorem dL_bill_26 : decode cL_bill 26 = .ok (.ireturn, 1) := by decide +kernel
theorem dL_bill_27 : decode cL_bill 27 = .ok (.astore 7, 2) := by decide +kernel
theorem dL_bill_29 : decode cL_bill 29 = .ok (.iconst 3, 1) := by decide +kernel
theorem dL_bill_30 : decode cL_bill 30 = .ok (.ireturn, 1) := by decide +kernel
theorem dL_bill_31 : decode cL_bill 31 = .ok (.iconst 0, 1) := by decide +kernel
theorem dL_bill_32 : decode cL_bill 32 = .ok (.ireturn, 1) := by decide +kernel
theorem dL_receive_0 : decode cL_receive 0 = .ok (.aload 4, 2) := by decide +kernel
theorem dL_receive_2 : decode cL_receive 2 = .ok (.iconst 0, 1) := by decide +kernel
theorem dL_receive_3 : decode cL_receive 3 = .ok (.aload_n 0, 1) := by decide +kernel
theorem dL_receive_4 : decode cL_receive 4 = .ok (.iload_n 1, 1) := by decide +kernel
theorem dL_receive_5 : decode cL_receive 5 = .ok (.iload_n 2, 1) := by decide +kernel
theorem dL_receive_6 : decode cL_receive 6 = .ok (.iload_n 3, 1) := by decide +kernel
theorem dL_receive_7 : decode cL_receive 7 = .ok (.invokevirtual 19, 3) := by decide +kernel
theorem dL_receive_10 : decode cL_receive 10 = .ok (.i2l, 1) := by decide +kernel
theorem dL_receive_11 : decode cL_receive 11 = .ok (.lastore, 1) := by decide +kernel
theorem dL_receive_12 : decode cL_receive 12 = .ok (.goto 15, 3) := by decide +kernel
theorem dL_receive_15 : decode cL_receive 15 = .ok (.astore 5, 2) := by decide +kernel
theorem dL_receive_17 : decode cL_receive 17 = .ok (.iconst 1, 1) := by decide +kernel
theorem dL_receive_18 : decode cL_receive 18 = .ok (.ireturn, 1) := by decide +kernel
theorem dL_receive_19 : decode cL_receive 19 = .ok (.astore 5, 2) := by decide +kernel
theorem dL_receive_21 : decode cL_receive 21 = .ok (.iconst 2, 1) := by decide +kernel
theorem dL_receive_22 : decode cL_receive 22 = .ok (.ireturn, 1) := by decide +kernel
theorem dL_receive_23 : decode cL_receive 23 = .ok (.astore 5, 2) := by decide +kernel
theorem dL_receive_25 : decode cL_receive 25 = .ok (.iconst 3, 1) := by decide +kernel
theorem dL_receive_26 : decode cL_receive 26 = .ok (.ireturn, 1) := by decide +kernel
theorem dL_receive_27 : decode cL_receive 27 = .ok (.iconst 0, 1) := by decide +kernel
theorem dL_receive_28 : decode cL_receive 28 = .ok (.ireturn, 1) := by decide +kernel
theorem dL_assign_0 : decode cL_assign 0 = .ok (.aload_n 3, 1) := by decide +kernel
theorem dL_assign_1 : decode cL_assign 1 = .ok (.iconst 0, 1) := by decide +kernel
theorem dL_assign_2 : decode cL_assign 2 = .ok (.aload_n 0, 1) := by decide +kernel
theorem dL_assign_3 : decode cL_assign 3 = .ok (.iload_n 1, 1) := by decide +kernel
theorem dL_assign_4 : decode cL_assign 4 = .ok (.iload_n 2, 1) := by decide +kernel
theorem dL_assign_5 : decode cL_assign 5 = .ok (.invokevirtual 23, 3) := by decide +kernel
theorem dL_assign_8 : decode cL_assign 8 = .ok (.i2l, 1) := by decide +kernel
theorem dL_assign_9 : decode cL_assign 9 = .ok (.lastore, 1) := by decide +kernel
theorem dL_assign_10 : decode cL_assign 10 = .ok (.goto 11, 3) := by decide +kernel
theorem dL_assign_13 : decode cL_assign 13 = .ok (.astore 4, 2) := by decide +kernel
theorem dL_assign_15 : decode cL_assign 15 = .ok (.iconst 1, 1) := by decide +kernel
theorem dL_assign_16 : decode cL_assign 16 = .ok (.ireturn, 1) := by decide +kernel
theorem dL_assign_17 : decode cL_assign 17 = .ok (.astore 4, 2) := by decide +kernel
theorem dL_assign_19 : decode cL_assign 19 = .ok (.iconst 2, 1) := by decide +kernel
theorem dL_assign_20 : decode cL_assign 20 = .ok (.ireturn, 1) := by decide +kernel
theorem dL_assign_21 : decode cL_assign 21 = .ok (.iconst 0, 1) := by decide +kernel
theorem dL_assign_22 : decode cL_assign 22 = .ok (.ireturn, 1) := by decide +kernel
theorem dL_apply_0 : decode cL_apply 0 = .ok (.aload_n 2, 1) := by decide +kernel
theorem dL_apply_1 : decode cL_apply 1 = .ok (.iconst 0, 1) := by decide +kernel
theorem dL_apply_2 : decode cL_apply 2 = .ok (.aload_n 0, 1) := by decide +kernel
theorem dL_apply_3 : decode cL_apply 3 = .ok (.iload_n 1, 1) := by decide +kernel
theorem dL_apply_4 : decode cL_apply 4 = .ok (.invokevirtual 27, 3) := by decide +kernel
theorem dL_apply_7 : decode cL_apply 7 = .ok (.i2l, 1) := by decide +kernel
theorem dL_apply_8 : decode cL_apply 8 = .ok (.lastore, 1) := by decide +kernel
theorem dL_apply_9 : decode cL_apply 9 = .ok (.goto 9, 3) := by decide +kernel
theorem dL_apply_12 : decode cL_apply 12 = .ok (.astore_n 3, 1) := by decide +kernel
theorem dL_apply_13 : decode cL_apply 13 = .ok (.iconst 1, 1) := by decide +kernel
theorem dL_apply_14 : decode cL_apply 14 = .ok (.ireturn, 1) := by decide +kernel
theorem dL_apply_15 : decode cL_apply 15 = .ok (.astore_n 3, 1) := by decide +kernel
theorem dL_apply_16 : decode cL_apply 16 = .ok (.iconst 2, 1) := by decide +kernel
theorem dL_apply_17 : decode cL_apply 17 = .ok (.ireturn, 1) := by decide +kernel
theorem dL_apply_18 : decode cL_apply 18 = .ok (.iconst 0, 1) := by decide +kernel
theorem dL_apply_19 : decode cL_apply 19 = .ok (.ireturn, 1) := by decide +kernel
theorem dL_payBack_0 : decode cL_payBack 0 = .ok (.aload_n 2, 1) := by decide +kernel
theorem dL_payBack_1 : decode cL_payBack 1 = .ok (.iconst 0, 1) := by decide +kernel
theorem dL_payBack_2 : decode cL_payBack 2 = .ok (.aload_n 0, 1) := by decide +kernel
theorem dL_payBack_3 : decode cL_payBack 3 = .ok (.iload_n 1, 1) := by decide +kernel
theorem dL_payBack_4 : decode cL_payBack 4 = .ok (.invokevirtual 31, 3) := by decide +kernel
theorem dL_payBack_7 : decode cL_payBack 7 = .ok (.i2l, 1) := by decide +kernel
theorem dL_payBack_8 : decode cL_payBack 8 = .ok (.lastore, 1) := by decide +kernel
theorem dL_payBack_9 : decode cL_payBack 9 = .ok (.goto 9, 3) := by decide +kernel
theorem dL_payBack_12 : decode cL_payBack 12 = .ok (.astore_n 3, 1) := by decide +kernel
theorem dL_payBack_13 : decode cL_payBack 13 = .ok (.iconst 1, 1) := by decide +kernel
theorem dL_payBack_14 : decode cL_payBack 14 = .ok (.ireturn, 1) := by decide +kernel
theorem dL_payBack_15 : decode cL_payBack 15 = .ok (.astore_n 3, 1) := by decide +kernel
theorem dL_payBack_16 : decode cL_payBack 16 = .ok (.iconst 2, 1) := by decide +kernel
theorem dL_payBack_17 : decode cL_payBack 17 = .ok (.ireturn, 1) := by decide +kernel
theorem dL_payBack_18 : decode cL_payBack 18 = .ok (.iconst 0, 1) := by decide +kernel
theorem dL_payBack_19 : decode cL_payBack 19 = .ok (.ireturn, 1) := by decide +kernel
theorem dL_bounce_0 : decode cL_bounce 0 = .ok (.aload_n 2, 1) := by decide +kernel
theorem dL_bounce_1 : decode cL_bounce 1 = .ok (.iconst 0, 1) := by decide +kernel
theorem dL_bounce_2 : decode cL_bounce 2 = .ok (.aload_n 0, 1) := by decide +kernel
theorem dL_bounce_3 : decode cL_bounce 3 = .ok (.iload_n 1, 1) := by decide +kernel
theorem dL_bounce_4 : decode cL_bounce 4 = .ok (.invokevirtual 34, 3) := by decide +kernel
theorem dL_bounce_7 : decode cL_bounce 7 = .ok (.i2l, 1) := by decide +kernel
theorem dL_bounce_8 : decode cL_bounce 8 = .ok (.lastore, 1) := by decide +kernel
theorem dL_bounce_9 : decode cL_bounce 9 = .ok (.goto 9, 3) := by decide +kernel
theorem dL_bounce_12 : decode cL_bounce 12 = .ok (.astore_n 3, 1) := by decide +kernel
theorem dL_bounce_13 : decode cL_bounce 13 = .ok (.iconst 1, 1) := by decide +kernel
theorem dL_bounce_14 : decode cL_bounce 14 = .ok (.ireturn, 1) := by decide +kernel
theorem dL_bounce_15 : decode cL_bounce 15 = .ok (.astore_n 3, 1) := by decide +kernel
theorem dL_bounce_16 : decode cL_bounce 16 = .ok (.iconst 2, 1) := by decide +kernel
theorem dL_bounce_17 : decode cL_bounce 17 = .ok (.ireturn, 1) := by decide +kernel
theorem dL_bounce_18 : decode cL_bounce 18 = .ok (.iconst 0, 1) := by decide +kernel
theorem dL_bounce_19 : decode cL_bounce 19 = .ok (.ireturn, 1) := by decide +kernel
theorem dL_settle_0 : decode cL_settle 0 = .ok (.aload_n 3, 1) := by decide +kernel
theorem dL_settle_1 : decode cL_settle 1 = .ok (.iconst 0, 1) := by decide +kernel
theorem dL_settle_2 : decode cL_settle 2 = .ok (.aload_n 0, 1) := by decide +kernel
theorem dL_settle_3 : decode cL_settle 3 = .ok (.iload_n 1, 1) := by decide +kernel
theorem dL_settle_4 : decode cL_settle 4 = .ok (.iload_n 2, 1) := by decide +kernel
theorem dL_settle_5 : decode cL_settle 5 = .ok (.invokevirtual 37, 3) := by decide +kernel
theorem dL_settle_8 : decode cL_settle 8 = .ok (.i2l, 1) := by decide +kernel
theorem dL_settle_9 : decode cL_settle 9 = .ok (.lastore, 1) := by decide +kernel
theorem dL_settle_10 : decode cL_settle 10 = .ok (.goto 11, 3) := by decide +kernel
theorem dL_settle_13 : decode cL_settle 13 = .ok (.astore 4, 2) := by decide +kernel
theorem dL_settle_15 : decode cL_settle 15 = .ok (.iconst 1, 1) := by decide +kernel
theorem dL_settle_16 : decode cL_settle 16 = .ok (.ireturn, 1) := by decide +kernel
theorem dL_settle_17 : decode cL_settle 17 = .ok (.astore 4, 2) := by decide +kernel
theorem dL_settle_19 : decode cL_settle 19 = .ok (.iconst 2, 1) := by decide +kernel
theorem dL_settle_20 : decode cL_settle 20 = .ok (.ireturn, 1) := by decide +kernel
theorem dL_settle_21 : decode cL_settle 21 = .ok (.iconst 0, 1) := by decide +kernel
theorem dL_settle_22 : decode cL_settle 22 = .ok (.ireturn, 1) := by decide +kernel
theorem dL_advance_0 : decode cL_advance 0 = .ok (.aload_n 2, 1) := by decide +kernel
theorem dL_advance_1 : decode cL_advance 1 = .ok (.iconst 0, 1) := by decide +kernel
theorem dL_advance_2 : decode cL_advance 2 = .ok (.aload_n 0, 1) := by decide +kernel
theorem dL_advance_3 : decode cL_advance 3 = .ok (.iload_n 1, 1) := by decide +kernel
theorem dL_advance_4 : decode cL_advance 4 = .ok (.invokevirtual 41, 3) := by decide +kernel
theorem dL_advance_7 : decode cL_advance 7 = .ok (.i2l, 1) := by decide +kernel
theorem dL_advance_8 : decode cL_advance 8 = .ok (.lastore, 1) := by decide +kernel
theorem dL_advance_9 : decode cL_advance 9 = .ok (.goto 6, 3) := by decide +kernel
theorem dL_advance_12 : decode cL_advance 12 = .ok (.astore_n 3, 1) := by decide +kernel
theorem dL_advance_13 : decode cL_advance 13 = .ok (.iconst 1, 1) := by decide +kernel
theorem dL_advance_14 : decode cL_advance 14 = .ok (.ireturn, 1) := by decide +kernel
theorem dL_advance_15 : decode cL_advance 15 = .ok (.iconst 0, 1) := by decide +kernel
theorem dL_advance_16 : decode cL_advance 16 = .ok (.ireturn, 1) := by decide +kernel
theorem dL_open_0 : decode cL_open 0 = .ok (.aload_n 2, 1) := by decide +kernel
theorem dL_open_1 : decode cL_open 1 = .ok (.iconst 0, 1) := by decide +kernel
theorem dL_open_2 : decode cL_open 2 = .ok (.aload_n 0, 1) := by decide +kernel
theorem dL_open_3 : decode cL_open 3 = .ok (.iload_n 1, 1) := by decide +kernel
theorem dL_open_4 : decode cL_open 4 = .ok (.invokevirtual 44, 3) := by decide +kernel
theorem dL_open_7 : decode cL_open 7 = .ok (.i2l, 1) := by decide +kernel
theorem dL_open_8 : decode cL_open 8 = .ok (.lastore, 1) := by decide +kernel
theorem dL_open_9 : decode cL_open 9 = .ok (.goto 6, 3) := by decide +kernel
theorem dL_open_12 : decode cL_open 12 = .ok (.astore_n 3, 1) := by decide +kernel
theorem dL_open_13 : decode cL_open 13 = .ok (.iconst 1, 1) := by decide +kernel
theorem dL_open_14 : decode cL_open 14 = .ok (.ireturn, 1) := by decide +kernel
theorem dL_open_15 : decode cL_open 15 = .ok (.iconst 0, 1) := by decide +kernel
theorem dL_open_16 : decode cL_open 16 = .ok (.ireturn, 1) := by decide +kernel
theorem dL_due_0 : decode cL_due 0 = .ok (.aload_n 2, 1) := by decide +kernel
theorem dL_due_1 : decode cL_due 1 = .ok (.iconst 0, 1) := by decide +kernel
theorem dL_due_2 : decode cL_due 2 = .ok (.aload_n 0, 1) := by decide +kernel
theorem dL_due_3 : decode cL_due 3 = .ok (.iload_n 1, 1) := by decide +kernel
theorem dL_due_4 : decode cL_due 4 = .ok (.invokevirtual 47, 3) := by decide +kernel
theorem dL_due_7 : decode cL_due 7 = .ok (.i2l, 1) := by decide +kernel
theorem dL_due_8 : decode cL_due 8 = .ok (.lastore, 1) := by decide +kernel
theorem dL_due_9 : decode cL_due 9 = .ok (.goto 6, 3) := by decide +kernel
theorem dL_due_12 : decode cL_due 12 = .ok (.astore_n 3, 1) := by decide +kernel
theorem dL_due_13 : decode cL_due 13 = .ok (.iconst 1, 1) := by decide +kernel
theorem dL_due_14 : decode cL_due 14 = .ok (.ireturn, 1) := by decide +kernel
theorem dL_due_15 : decode cL_due 15 = .ok (.iconst 0, 1) := by decide +kernel
theorem dL_due_16 : decode cL_due 16 = .ok (.ireturn, 1) := by decide +kernel
theorem dL_paid_0 : decode cL_paid 0 = .ok (.aload_n 2, 1) := by decide +kernel
theorem dL_paid_1 : decode cL_paid 1 = .ok (.iconst 0, 1) := by decide +kernel
theorem dL_paid_2 : decode cL_paid 2 = .ok (.aload_n 0, 1) := by decide +kernel
theorem dL_paid_3 : decode cL_paid 3 = .ok (.iload_n 1, 1) := by decide +kernel
theorem dL_paid_4 : decode cL_paid 4 = .ok (.invokevirtual 50, 3) := by decide +kernel
theorem dL_paid_7 : decode cL_paid 7 = .ok (.i2l, 1) := by decide +kernel
theorem dL_paid_8 : decode cL_paid 8 = .ok (.lastore, 1) := by decide +kernel
theorem dL_paid_9 : decode cL_paid 9 = .ok (.goto 6, 3) := by decide +kernel
theorem dL_paid_12 : decode cL_paid 12 = .ok (.astore_n 3, 1) := by decide +kernel
theorem dL_paid_13 : decode cL_paid 13 = .ok (.iconst 1, 1) := by decide +kernel
theorem dL_paid_14 : decode cL_paid 14 = .ok (.ireturn, 1) := by decide +kernel
theorem dL_paid_15 : decode cL_paid 15 = .ok (.iconst 0, 1) := by decide +kernel
theorem dL_paid_16 : decode cL_paid 16 = .ok (.ireturn, 1) := by decide +kernel
theorem dL_taken_0 : decode cL_taken 0 = .ok (.aload_n 2, 1) := by decide +kernel
theorem dL_taken_1 : decode cL_taken 1 = .ok (.iconst 0, 1) := by decide +kernel
theorem dL_taken_2 : decode cL_taken 2 = .ok (.aload_n 0, 1) := by decide +kernel
theorem dL_taken_3 : decode cL_taken 3 = .ok (.iload_n 1, 1) := by decide +kernel
theorem dL_taken_4 : decode cL_taken 4 = .ok (.invokevirtual 53, 3) := by decide +kernel
theorem dL_taken_7 : decode cL_taken 7 = .ok (.i2l, 1) := by decide +kernel
theorem dL_taken_8 : decode cL_taken 8 = .ok (.lastore, 1) := by decide +kernel
theorem dL_taken_9 : decode cL_taken 9 = .ok (.goto 6, 3) := by decide +kernel
theorem dL_taken_12 : decode cL_taken 12 = .ok (.astore_n 3, 1) := by decide +kernel
theorem dL_taken_13 : decode cL_taken 13 = .ok (.iconst 1, 1) := by decide +kernel
theorem dL_taken_14 : decode cL_taken 14 = .ok (.ireturn, 1) := by decide +kernel
theorem dL_taken_15 : decode cL_taken 15 = .ok (.iconst 0, 1) := by decide +kernel
theorem dL_taken_16 : decode cL_taken 16 = .ok (.ireturn, 1) := by decide +kernel
theorem dL_disputed_0 : decode cL_disputed 0 = .ok (.aload_n 2, 1) := by decide +kernel
theorem dL_disputed_1 : decode cL_disputed 1 = .ok (.iconst 0, 1) := by decide +kernel
theorem dL_disputed_2 : decode cL_disputed 2 = .ok (.aload_n 0, 1) := by decide +kernel
theorem dL_disputed_3 : decode cL_disputed 3 = .ok (.iload_n 1, 1) := by decide +kernel
theorem dL_disputed_4 : decode cL_disputed 4 = .ok (.invokevirtual 56, 3) := by decide +kernel
theorem dL_disputed_7 : decode cL_disputed 7 = .ok (.i2l, 1) := by decide +kernel
theorem dL_disputed_8 : decode cL_disputed 8 = .ok (.lastore, 1) := by decide +kernel
theorem dL_disputed_9 : decode cL_disputed 9 = .ok (.goto 6, 3) := by decide +kernel
theorem dL_disputed_12 : decode cL_disputed 12 = .ok (.astore_n 3, 1) := by decide +kernel
theorem dL_disputed_13 : decode cL_disputed 13 = .ok (.iconst 1, 1) := by decide +kernel
theorem dL_disputed_14 : decode cL_disputed 14 = .ok (.ireturn, 1) := by decide +kernel
theorem dL_disputed_15 : decode cL_disputed 15 = .ok (.iconst 0, 1) := by decide +kernel
theorem dL_disputed_16 : decode cL_disputed 16 = .ok (.ireturn, 1) := by decide +kernel
theorem dL_writtenOff_0 : decode cL_writtenOff 0 = .ok (.aload_n 2, 1) := by decide +kernel
theorem dL_writtenOff_1 : decode cL_writtenOff 1 = .ok (.iconst 0, 1) := by decide +kernel
theorem dL_writtenOff_2 : decode cL_writtenOff 2 = .ok (.aload_n 0, 1) := by decide +kernel
theorem dL_writtenOff_3 : decode cL_writtenOff 3 = .ok (.iload_n 1, 1) := by decide +kernel
theorem dL_writtenOff_4 : decode cL_writtenOff 4 = .ok (.invokevirtual 59, 3) := by decide +kernel
theorem dL_writtenOff_7 : decode cL_writtenOff 7 = .ok (.i2l, 1) := by decide +kernel
theorem dL_writtenOff_8 : decode cL_writtenOff 8 = .ok (.lastore, 1) := by decide +kernel
theorem dL_writtenOff_9 : decode cL_writtenOff 9 = .ok (.goto 6, 3) := by decide +kernel
theorem dL_writtenOff_12 : decode cL_writtenOff 12 = .ok (.astore_n 3, 1) := by decide +kernel
theorem dL_writtenOff_13 : decode cL_writtenOff 13 = .ok (.iconst 1, 1) := by decide +kernel
theorem dL_writtenOff_14 : decode cL_writtenOff 14 = .ok (.ireturn, 1) := by decide +kernel
theorem dL_writtenOff_15 : decode cL_writtenOff 15 = .ok (.iconst 0, 1) := by decide +kernel
theorem dL_writtenOff_16 : decode cL_writtenOff 16 = .ok (.ireturn, 1) := by decide +kernel
theorem dL_openOf_0 : decode cL_openOf 0 = .ok (.aload_n 2, 1) := by decide +kernel
theorem dL_openOf_1 : decode cL_openOf 1 = .ok (.iconst 0, 1) := by decide +kernel
theorem dL_openOf_2 : decode cL_openOf 2 = .ok (.aload_n 0, 1) := by decide +kernel
theorem dL_openOf_3 : decode cL_openOf 3 = .ok (.iload_n 1, 1) := by decide +kernel
theorem dL_openOf_4 : decode cL_openOf 4 = .ok (.invokevirtual 62, 3) := by decide +kernel
theorem dL_openOf_7 : decode cL_openOf 7 = .ok (.i2l, 1) := by decide +kernel
theorem dL_openOf_8 : decode cL_openOf 8 = .ok (.lastore, 1) := by decide +kernel
theorem dL_openOf_9 : decode cL_openOf 9 = .ok (.goto 6, 3) := by decide +kernel
theorem dL_openOf_12 : decode cL_openOf 12 = .ok (.astore_n 3, 1) := by decide +kernel
theorem dL_openOf_13 : decode cL_openOf 13 = .ok (.iconst 1, 1) := by decide +kernel
theorem dL_openOf_14 : decode cL_openOf 14 = .ok (.ireturn, 1) := by decide +kernel
theorem dL_openOf_15 : decode cL_openOf 15 = .ok (.iconst 0, 1) := by decide +kernel
theorem dL_openOf_16 : decode cL_openOf 16 = .ok (.ireturn, 1) := by decide +kernel
theorem dL_setFor_0 : decode cL_setFor 0 = .ok (.aload 4, 2) := by decide +kernel
theorem dL_setFor_2 : decode cL_setFor 2 = .ok (.iconst 0, 1) := by decide +kernel
theorem dL_setFor_3 : decode cL_setFor 3 = .ok (.aload_n 0, 1) := by decide +kernel
theorem dL_setFor_4 : decode cL_setFor 4 = .ok (.iload_n 1, 1) := by decide +kernel
theorem dL_setFor_5 : decode cL_setFor 5 = .ok (.iload_n 2, 1) := by decide +kernel
theorem dL_setFor_6 : decode cL_setFor 6 = .ok (.iload_n 3, 1) := by decide +kernel
theorem dL_setFor_7 : decode cL_setFor 7 = .ok (.invokevirtual 65, 3) := by decide +kernel
theorem dL_setFor_10 : decode cL_setFor 10 = .ok (.i2l, 1) := by decide +kernel
theorem dL_setFor_11 : decode cL_setFor 11 = .ok (.lastore, 1) := by decide +kernel
theorem dL_setFor_12 : decode cL_setFor 12 = .ok (.goto 11, 3) := by decide +kernel
theorem dL_setFor_15 : decode cL_setFor 15 = .ok (.astore 5, 2) := by decide +kernel
theorem dL_setFor_17 : decode cL_setFor 17 = .ok (.iconst 1, 1) := by decide +kernel
theorem dL_setFor_18 : decode cL_setFor 18 = .ok (.ireturn, 1) := by decide +kernel
theorem dL_setFor_19 : decode cL_setFor 19 = .ok (.astore 5, 2) := by decide +kernel
theorem dL_setFor_21 : decode cL_setFor 21 = .ok (.iconst 2, 1) := by decide +kernel
theorem dL_setFor_22 : decode cL_setFor 22 = .ok (.ireturn, 1) := by decide +kernel
theorem dL_setFor_23 : decode cL_setFor 23 = .ok (.iconst 0, 1) := by decide +kernel
theorem dL_setFor_24 : decode cL_setFor 24 = .ok (.ireturn, 1) := by decide +kernel
theorem dL_customerOf_0 : decode cL_customerOf 0 = .ok (.aload_n 2, 1) := by decide +kernel
theorem dL_customerOf_1 : decode cL_customerOf 1 = .ok (.iconst 0, 1) := by decide +kernel
theorem dL_customerOf_2 : decode cL_customerOf 2 = .ok (.aload_n 0, 1) := by decide +kernel
theorem dL_customerOf_3 : decode cL_customerOf 3 = .ok (.iload_n 1, 1) := by decide +kernel
theorem dL_customerOf_4 : decode cL_customerOf 4 = .ok (.invokevirtual 68, 3) := by decide +kernel
theorem dL_customerOf_7 : decode cL_customerOf 7 = .ok (.i2l, 1) := by decide +kernel
theorem dL_customerOf_8 : decode cL_customerOf 8 = .ok (.lastore, 1) := by decide +kernel
theorem dL_customerOf_9 : decode cL_customerOf 9 = .ok (.goto 6, 3) := by decide +kernel
theorem dL_customerOf_12 : decode cL_customerOf 12 = .ok (.astore_n 3, 1) := by decide +kernel
theorem dL_customerOf_13 : decode cL_customerOf 13 = .ok (.iconst 1, 1) := by decide +kernel
theorem dL_customerOf_14 : decode cL_customerOf 14 = .ok (.ireturn, 1) := by decide +kernel
theorem dL_customerOf_15 : decode cL_customerOf 15 = .ok (.iconst 0, 1) := by decide +kernel
theorem dL_customerOf_16 : decode cL_customerOf 16 = .ok (.ireturn, 1) := by decide +kernel
theorem dL_appliedTo_0 : decode cL_appliedTo 0 = .ok (.aload_n 3, 1) := by decide +kernel
theorem dL_appliedTo_1 : decode cL_appliedTo 1 = .ok (.iconst 0, 1) := by decide +kernel
theorem dL_appliedTo_2 : decode cL_appliedTo 2 = .ok (.aload_n 0, 1) := by decide +kernel
theorem dL_appliedTo_3 : decode cL_appliedTo 3 = .ok (.iload_n 1, 1) := by decide +kernel
theorem dL_appliedTo_4 : decode cL_appliedTo 4 = .ok (.iload_n 2, 1) := by decide +kernel
theorem dL_appliedTo_5 : decode cL_appliedTo 5 = .ok (.invokevirtual 71, 3) := by decide +kernel
theorem dL_appliedTo_8 : decode cL_appliedTo 8 = .ok (.i2l, 1) := by decide +kernel
theorem dL_appliedTo_9 : decode cL_appliedTo 9 = .ok (.lastore, 1) := by decide +kernel
theorem dL_appliedTo_10 : decode cL_appliedTo 10 = .ok (.goto 7, 3) := by decide +kernel
theorem dL_appliedTo_13 : decode cL_appliedTo 13 = .ok (.astore 4, 2) := by decide +kernel
theorem dL_appliedTo_15 : decode cL_appliedTo 15 = .ok (.iconst 1, 1) := by decide +kernel
theorem dL_appliedTo_16 : decode cL_appliedTo 16 = .ok (.ireturn, 1) := by decide +kernel
theorem dL_appliedTo_17 : decode cL_appliedTo 17 = .ok (.iconst 0, 1) := by decide +kernel
theorem dL_appliedTo_18 : decode cL_appliedTo 18 = .ok (.ireturn, 1) := by decide +kernel
theorem dL_unapplied_0 : decode cL_unapplied 0 = .ok (.aload_n 2, 1) := by decide +kernel
theorem dL_unapplied_1 : decode cL_unapplied 1 = .ok (.iconst 0, 1) := by decide +kernel
theorem dL_unapplied_2 : decode cL_unapplied 2 = .ok (.aload_n 0, 1) := by decide +kernel
theorem dL_unapplied_3 : decode cL_unapplied 3 = .ok (.iload_n 1, 1) := by decide +kernel
theorem dL_unapplied_4 : decode cL_unapplied 4 = .ok (.invokevirtual 74, 3) := by decide +kernel
theorem dL_unapplied_7 : decode cL_unapplied 7 = .ok (.i2l, 1) := by decide +kernel
theorem dL_unapplied_8 : decode cL_unapplied 8 = .ok (.lastore, 1) := by decide +kernel
theorem dL_unapplied_9 : decode cL_unapplied 9 = .ok (.goto 6, 3) := by decide +kernel
theorem dL_unapplied_12 : decode cL_unapplied 12 = .ok (.astore_n 3, 1) := by decide +kernel
theorem dL_unapplied_13 : decode cL_unapplied 13 = .ok (.iconst 1, 1) := by decide +kernel
theorem dL_unapplied_14 : decode cL_unapplied 14 = .ok (.ireturn, 1) := by decide +kernel
theorem dL_unapplied_15 : decode cL_unapplied 15 = .ok (.iconst 0, 1) := by decide +kernel
theorem dL_unapplied_16 : decode cL_unapplied 16 = .ok (.ireturn, 1) := by decide +kernel
theorem dL_hasBounced_0 : decode cL_hasBounced 0 = .ok (.aload_n 2, 1) := by decide +kernel
theorem dL_hasBounced_1 : decode cL_hasBounced 1 = .ok (.iconst 0, 1) := by decide +kernel
theorem dL_hasBounced_2 : decode cL_hasBounced 2 = .ok (.aload_n 0, 1) := by decide +kernel
theorem dL_hasBounced_3 : decode cL_hasBounced 3 = .ok (.iload_n 1, 1) := by decide +kernel
theorem dL_hasBounced_4 : decode cL_hasBounced 4 = .ok (.invokevirtual 77, 3) := by decide +kernel
theorem dL_hasBounced_7 : decode cL_hasBounced 7 = .ok (.ifCond .eq 7, 3) := by decide +kernel
theorem dL_hasBounced_10 : decode cL_hasBounced 10 = .ok (.lconst 1, 1) := by decide +kernel
theorem dL_hasBounced_11 : decode cL_hasBounced 11 = .ok (.goto 4, 3) := by decide +kernel
theorem dL_hasBounced_14 : decode cL_hasBounced 14 = .ok (.lconst 0, 1) := by decide +kernel
theorem dL_hasBounced_15 : decode cL_hasBounced 15 = .ok (.lastore, 1) := by decide +kernel
theorem dL_hasBounced_16 : decode cL_hasBounced 16 = .ok (.goto 6, 3) := by decide +kernel
theorem dL_hasBounced_19 : decode cL_hasBounced 19 = .ok (.astore_n 3, 1) := by decide +kernel
theorem dL_hasBounced_20 : decode cL_hasBounced 20 = .ok (.iconst 1, 1) := by decide +kernel
theorem dL_hasBounced_21 : decode cL_hasBounced 21 = .ok (.ireturn, 1) := by decide +kernel
theorem dL_hasBounced_22 : decode cL_hasBounced 22 = .ok (.iconst 0, 1) := by decide +kernel
theorem dL_hasBounced_23 : decode cL_hasBounced 23 = .ok (.ireturn, 1) := by decide +kernel

abbrev tyl3 (cI cZ cL : ClassId) : List (ClassId × FieldType) := [(cI, .int), (cZ, .boolean), (cL, .long)]
/-- the class beside the law's own row of one long -/
def wL (a : Nat → Nat) (cI cZ cL : ClassId) (B R E : Nat → Nat → Int32) (td : Int32) (oo : Nat → Int64) : va_W := wCA a cI cZ B R E td ++ [(a 26, .inl (cL, 1, .inr (.inl oo)))]
def PreL (D : va_G) (cI cZ cL : ClassId) (WS : va_W) (sz : Nat) (U : State) : Prop := (U.heap.size = sz ∧ va_P D vwCl WS U.heap ∧ va_K D vwCl (tyl3 cI cZ cL) U ∧ va_D (fun _ => True) WS) ∧ ExB U ∧ ExZ (va_A WS sz) U U.heap
def PostL (D : va_G) (cI cZ cL : ClassId) (A : Nat → Prop) (WS : va_W) (t : State) : Prop := va_P D vwCl WS t.heap ∧ va_K D vwCl (tyl3 cI cZ cL) t ∧ va_D A WS
theorem PreL.blind {D : va_G} {cI cZ cL : ClassId} {WS : va_W} {sz : Nat} {av : List Value} : FrameBlind (va_Pc av (PreL D cI cZ cL WS sz)) := fun a U g mk q => by
  obtain ⟨q0, ⟨q1, q2, q3, q4⟩, q5, q6⟩ := q
  exact ⟨q0, ⟨q1, q2, va_K.moved (u := U) (U := U.calling g mk a) (Vm.Alike.refl U.vm) q3, q4⟩, q5.same rfl, q6.go (Vm.Alike.refl U.vm) (fun _ _ _ => rfl) (fun _ h => h)⟩
section ZLC
variable {D : va_G} {cI cZ cL : ClassId} {a : Nat → Nat} {B R E : Nat → Nat → Int32} {td : Int32} {oo : Nat → Int64} {A : Nat → Prop} {H0 H : Heap} {locs : List Loc}
abbrev ksCA : List Nat := [1, 2, 3, 4, 5, 6, 7, 8, 9, 10, 11, 12, 13, 14, 15, 16, 17, 18, 19, 20, 21, 22, 23, 24, 25, 26, 0]
theorem zwCA (hP : va_P D vwCl (wL a cI cZ cL B R E td oo) H) (hD : va_D A (wL a cI cZ cL B R E td oo)) (hS : va_S A H0 H locs) (hA : ∀ q, H0.size ≤ q → A q) : ZW D A H0 (wL a cI cZ cL B R E td oo) (wCA a cI cZ B R E td) [(a 26, .inl (cL, 1, .inr (.inl oo)))] H locs (List.range 26) [26] := ⟨hP, hD, hS, hA, by decide, by decide, by decide, rfl, rfl⟩
theorem zkCA (B' : Nat → Nat → Int32) {R' E' : Nat → Nat → Int32} {td' : Int32} : ksCA.map (fun i => (([(a 26, .inl (cL, 1, .inr (.inl oo)))] : va_W) ++ wCA a cI cZ B' R' E' td')[i]?) = (wL a cI cZ cL B' R' E' td' oo).map some := rfl
end ZLC
section ZLR
variable {p : Program} {l : Launch} {e : Env} {R : Room} {s : State} {m : MethodId} {args : Array Value} {below : List Frame} {meth : Method} {c : Code} {H : Heap} {locs : List Loc} {cells slots : Nat} {Q : State → Prop}
variable {cc : ByteArray} {pc : Nat} {ls : Array Slot} {rest : List Value} {D : va_G} {A : Nat → Prop} {a : Nat} {cI cZ cL : ClassId} {ws : va_W} {H0 : Heap}
theorem zlst (hexec : p.tables.exec = Jvm.exec) (hb : c.code = cc) (hK : va_K D vwCl (tyl3 cI cZ cL) s) (hP : va_P D vwCl ws H) (hD : va_D A ws) (hS : va_S A H0 H locs) (q0 : Nat) {f : Nat → Int64} (ha : ws[q0]? = some (a, .inl (cL, 1, .inr (.inl f)))) {v : Int64} (wf : va_W) (hwf : ws.set q0 (a, .inl (cL, 1, .inr (.inl (vp_updL f 0 v)))) = wf) (hdg : decode cc pc = .ok (.lastore, 1))
    (kk : ∀ (H1 : Heap) (locs1 : List Loc), va_P D vwCl wf H1 → va_D A wf → va_S A H0 H1 locs1 → W p l e R s m args below meth c H1 locs1 cells slots Q (F0 m (pc + 1) ls rest)) : W p l e R s m args below meth c H locs cells slots Q (F0 m pc ls (.long v :: .int 0 :: .ref a :: rest)) := by
  subst hwf
  refine va_last hexec hb hK hP hD hS q0 2 ha rfl (i := 0) (vp_in_nI (n := 0) (N := 1) (by omega) (by omega)) hdg ?_
  rw [sb_cl0]
  exact kk
theorem zlld (hexec : p.tables.exec = Jvm.exec) (hb : c.code = cc) (hK : va_K D vwCl (tyl3 cI cZ cL) s) (hP : va_P D vwCl ws H) (q0 : Nat) {f : Nat → Int64} (ha : ws[q0]? = some (a, .inl (cL, 1, .inr (.inl f)))) (hdg : decode cc pc = .ok (.laload, 1))
    (kk : W p l e R s m args below meth c H locs cells slots Q (F0 m (pc + 1) ls (.long (f 0) :: rest))) : W p l e R s m args below meth c H locs cells slots Q (F0 m pc ls (.int 0 :: .ref a :: rest)) := by
  refine va_lald hexec hb hK hP q0 2 ha rfl (i := 0) (vp_in_nI (n := 0) (N := 1) (by omega) (by omega)) hdg ?_
  rw [sb_cl0]
  exact kk
end ZLR
theorem billK_c {n : Nat} {cu am rf rt dy : Int32} : billK n cu am rf rt dy = 0 ∨ billK n cu am rf rt dy = 1 ∨ billK n cu am rf rt dy = 2 ∨ billK n cu am rf rt dy = 3 := by
  unfold billK
  repeat' split
  all_goals simp
theorem rcvK_c {n : Nat} {cu am rf : Int32} : rcvK n cu am rf = 0 ∨ rcvK n cu am rf = 1 ∨ rcvK n cu am rf = 2 ∨ rcvK n cu am rf = 3 := by
  unfold rcvK
  repeat' split
  all_goals simp
theorem stfK_c {cu sm pl : Int32} : stfK cu sm pl = 0 ∨ stfK cu sm pl = 1 ∨ stfK cu sm pl = 2 := by
  unfold stfK
  repeat' split
  all_goals simp
theorem asgK_c {R : Nat → Nat → Int32} {vx cu : Int32} : asgK R vx cu = 0 ∨ asgK R vx cu = 1 ∨ asgK R vx cu = 2 := by
  unfold asgK
  repeat' split
  all_goals simp
theorem aplK_c {R : Nat → Nat → Int32} {vx : Int32} : aplK R vx = 0 ∨ aplK R vx = 1 ∨ aplK R vx = 2 := by
  unfold aplK
  repeat' split
  all_goals simp
theorem pbkK_c {R : Nat → Nat → Int32} {vx : Int32} : pbkK R vx = 0 ∨ pbkK R vx = 1 ∨ pbkK R vx = 2 := by
  unfold pbkK
  repeat' split
  all_goals simp
theorem bncK_c {R : Nat → Nat → Int32} {vx : Int32} : bncK R vx = 0 ∨ bncK R vx = 1 ∨ bncK R vx = 2 := by
  unfold bncK
  repeat' split
  all_goals simp
theorem stlK_c {B : Nat → Nat → Int32} {vx : Int32} : stlK B vx = 0 ∨ stlK B vx = 1 ∨ stlK B vx = 2 := by
  unfold stlK
  repeat' split
  all_goals simp
set_option maxHeartbeats 4000000 in
set_option maxRecDepth 100000 in
theorem c_L_bill_0 (l : Launch) (D : va_G) (cI cZ cL : ClassId) (a : Nat → Nat) (sz : Nat) (B : Nat → Nat → Int32) (R : Nat → Nat → Int32) (E : Nat → Nat → Int32) (td : Int32) (n : Nat) (cu : Int32) (am : Int32) (rf : Int32) (rt : Int32) (dy : Int32) (oo : Nat → Int64) (hB : B 11 0 = nI n) (hn : n < 40) (h1 : ¬ cu < 0) (h2 : cu < 8) (h3 : ¬ am < 1) (h4 : am ≤ 1000000) (h5 : ¬ rf < 1) (h6 : rf ≤ 9999) (h7 : ¬ rt < 0) (h8 : rt ≤ 10000) (h9 : ¬ dy < 0) (h10 : dy ≤ 90) : Met l yL_bill wsL_bill ({ frames := 2, cells := 0, slots := 0, locals := 51 } : Room) (va_Pc [.ref (a 0), .int (cu), .int (am), .int (rf), .int (rt), .int (dy), .ref (a 26)] (PreL D cI cZ cL (wL a cI cZ cL B R E (td) oo) sz)) (va_Qi (fun (r : Int32) (u : Unit) => r = 0) (fun (u : Unit) => PostL D cI cZ cL (va_A (wL a cI cZ cL B R E (td) oo) sz) (wL a cI cZ cL (addB B n cu am rf (dcO am rt) (td + dy)) R E (td) (vp_updL oo 0 (nI n).toInt64))) (va_A (wL a cI cZ cL B R E (td) oo) sz)) 0 0 (va_A (wL a cI cZ cL B R E (td) oo) sz) := by
  refine va_MetW (cc := cL_bill) (maxL := 8) (ret := (some .int)) (hh := [(0, 16, 19, 13), (0, 16, 23, 15), (0, 16, 27, 17)]) (by decide) rfl ?_
  intro p e s m args below meth c s₁ BB hml hv
  obtain ⟨rfl, ⟨hsz, hP, hK3, hD0⟩, hX, hZ⟩ := hv
  have hx := BB.exec
  have hb := BB.bytes
  have hr := BB.returns
  have hts := atoms_spec (ws := wsL_bill) BB.pre
  have hown : s.vm.findClass RL = some m.cls := findClass_of_methodNamed BB.named
  have hlocks := BB.notSynchronized
  clear BB
  subst hsz
  have hK := hK3.sub (tys' := tyl cI cZ) [0, 1] rfl
  have hD := hD0.self (sz := s.heap.size)
  clear hD0
  generalize hAe : va_A (wL a cI cZ cL B R E (td) oo) s.heap.size = A at hD hZ ⊢
  have hA : ∀ q : Nat, s.heap.size ≤ q → A q := fun q h => by rw [← hAe]; exact Or.inr h
  clear hAe
  have hl := lv_entry ([.ref (a 0), .int (cu), .int (am), .int (rf), .int (rt), .int (dy), .ref (a 26)]) (n := 8) (Nat.le_of_ble_eq_true rfl)
  rw [lg_entry_eq]
  generalize (lg_sl ([.ref (a 0), .int (cu), .int (am), .int (rf), .int (rt), .int (dy), .ref (a 26)]) ++ List.replicate (8 - (lg_sl ([.ref (a 0), .int (cu), .int (am), .int (rf), .int (rt), .int (dy), .ref (a 26)])).length) Slot.unset).toArray = ls at hl ⊢
  have hl : lv_has ls 8 [(0, .ref (a 0)), (1, .int (cu)), (2, .int (am)), (3, .int (rf)), (4, .int (rt)), (5, .int (dy)), (6, .ref (a 26))] := hl
  generalize hHe : s.heap = H at hP ⊢
  have hS : va_S A s.heap H [] := by rw [← hHe]; exact va_S.rf
  clear hHe
  generalize hLe : ([] : List Loc) = locs at hS ⊢
  clear hLe
  refine lv_aload hx hb dL_bill_0 (lv_at hl 6 rfl) ?_
  refine lv_iconst (v := 0) hx hb dL_bill_2 (by decide) ?_
  refine lv_aload_n hx hb dL_bill_3 rfl (lv_at hl 0 rfl) ?_
  refine lv_iload_n hx hb dL_bill_4 rfl (lv_at hl 1 rfl) ?_
  refine lv_iload_n hx hb dL_bill_5 rfl (lv_at hl 2 rfl) ?_
  refine lv_iload_n hx hb dL_bill_6 rfl (lv_at hl 3 rfl) ?_
  refine lv_iload hx hb dL_bill_7 (lv_at hl 4 rfl) ?_
  refine lv_iload hx hb dL_bill_9 (lv_at hl 5 rfl) ?_
  refine zcVi (ci := 3) (q0 := 0) (wf := (fun (u : Nat → Nat → Int32) => (wL a cI cZ cL u R E (td) oo))) ksCA ⟨hx, hb, hml, hown, hts⟩ (zwCA hP hD hS hA) hK (c_X3_bill l D cI cZ a H.size (B) (R) (E) (td) (n) (cu) (am) (rf) (rt) (dy) (by first | assumption | omega) (by first | assumption | omega) (by first | assumption | omega) (by first | assumption | omega) (by first | assumption | omega) (by first | assumption | omega) (by first | assumption | omega) (by first | assumption | omega) (by first | assumption | omega) (by first | assumption | omega) (by first | assumption | omega) (by first | assumption | omega)) (cwV 5 hts gL_bill_X3_bill rfl rfl rfl (by decide +kernel) ⟨Nat.le_of_ble_eq_true rfl, Nat.le_of_ble_eq_true rfl⟩) rfl rfl (by decide) (fun _ => zkCA _) rfl hl.1 rfl (Nat.le_of_ble_eq_true rfl) dL_bill_11 ⟨Nat.le_of_ble_eq_true rfl, Nat.le_of_ble_eq_true rfl⟩ (fun r11 u H locs hw hP hD hS => ?_)
  obtain ⟨rfl, rfl⟩ := hw
  have hP : va_P D vwCl (wL a cI cZ cL (addB (B) n (cu) (am) (rf) (dcO (am) (rt)) ((td) + (dy))) R E (td) oo) H := hP
  have hD : va_D A (wL a cI cZ cL (addB (B) n (cu) (am) (rf) (dcO (am) (rt)) ((td) + (dy))) R E (td) oo) := hD
  refine lv_i2l (v := (nI n).toInt64) hx hb dL_bill_14 rfl ?_
  refine zlst hx hb hK3 hP hD hS 26 rfl (wL a cI cZ cL (addB B n cu am rf (dcO am rt) (td + dy)) R E (td) (vp_updL oo 0 (nI n).toInt64)) rfl dL_bill_15 (fun H locs hP hD hS => ?_)
  refine lv_goto (tgt := 31) hx hb dL_bill_16 (by decide) ?_
  refine lv_iconst (v := 0) hx hb dL_bill_31 (by decide) ?_
  exact W.iret (v := 0) hx hb hr (fun t ht hW => ⟨⟨0, (), rfl, rfl, by rw [ht]; exact hP, va_K.moved hW.alike hK3, hD⟩, hS.F ht⟩) hS.2.2 dL_bill_32
set_option maxHeartbeats 4000000 in
set_option maxRecDepth 100000 in
theorem c_L_bill_k (l : Launch) (hfl : l.stackTraces = false) (D : va_G) (cI cZ cL : ClassId) (a : Nat → Nat) (sz : Nat) (B : Nat → Nat → Int32) (R : Nat → Nat → Int32) (E : Nat → Nat → Int32) (td : Int32) (n : Nat) (cu : Int32) (am : Int32) (rf : Int32) (rt : Int32) (dy : Int32) (oo : Nat → Int64) (hB : B 11 0 = nI n) (hn : n ≤ 40) (hk : ¬ billK n cu am rf rt dy = 0) : Met l yL_bill wsL_bill ({ frames := 8, cells := 1, slots := 6, locals := 137 } : Room) (va_Pc [.ref (a 0), .int (cu), .int (am), .int (rf), .int (rt), .int (dy), .ref (a 26)] (PreL D cI cZ cL (wL a cI cZ cL B R E (td) oo) sz)) (va_Qi (fun (r : Int32) (u : Unit) => r = nI (billK n cu am rf rt dy)) (fun (u : Unit) => PostL D cI cZ cL (va_A (wL a cI cZ cL B R E (td) oo) sz) (wL a cI cZ cL B R E (td) oo)) (va_A (wL a cI cZ cL B R E (td) oo) sz)) 1 6 (va_A (wL a cI cZ cL B R E (td) oo) sz) := by
  refine va_MetW (cc := cL_bill) (maxL := 8) (ret := (some .int)) (hh := [(0, 16, 19, 13), (0, 16, 23, 15), (0, 16, 27, 17)]) (by decide) rfl ?_
  intro p e s m args below meth c s₁ BB hml hv
  obtain ⟨rfl, ⟨hsz, hP, hK3, hD0⟩, hX, hZ⟩ := hv
  have hx := BB.exec
  have hb := BB.bytes
  have hr := BB.returns
  have hts := atoms_spec (ws := wsL_bill) BB.pre
  have hown : s.vm.findClass RL = some m.cls := findClass_of_methodNamed BB.named
  have hlocks := BB.notSynchronized
  have htab : c.exceptionTable.toList = tableOf [(0, 16, 19, 13), (0, 16, 23, 15), (0, 16, 27, 17)] := vx_table (x := yL_bill) BB (hts (.codeWith yL_bill cL_bill 8 (some .int) [(0, 16, 19, 13), (0, 16, 23, 15), (0, 16, 27, 17)]) List.mem_cons_self)
  clear BB
  subst hsz
  have hK := hK3.sub (tys' := tyl cI cZ) [0, 1] rfl
  have hD := hD0.self (sz := s.heap.size)
  clear hD0
  generalize hAe : va_A (wL a cI cZ cL B R E (td) oo) s.heap.size = A at hD hZ ⊢
  have hA : ∀ q : Nat, s.heap.size ≤ q → A q := fun q h => by rw [← hAe]; exact Or.inr h
  clear hAe
  have hl := lv_entry ([.ref (a 0), .int (cu), .int (am), .int (rf), .int (rt), .int (dy), .ref (a 26)]) (n := 8) (Nat.le_of_ble_eq_true rfl)
  rw [lg_entry_eq]
  generalize (lg_sl ([.ref (a 0), .int (cu), .int (am), .int (rf), .int (rt), .int (dy), .ref (a 26)]) ++ List.replicate (8 - (lg_sl ([.ref (a 0), .int (cu), .int (am), .int (rf), .int (rt), .int (dy), .ref (a 26)])).length) Slot.unset).toArray = ls at hl ⊢
  have hl : lv_has ls 8 [(0, .ref (a 0)), (1, .int (cu)), (2, .int (am)), (3, .int (rf)), (4, .int (rt)), (5, .int (dy)), (6, .ref (a 26))] := hl
  generalize hHe : s.heap = H at hP ⊢
  have hS : va_S A s.heap H [] := by rw [← hHe]; exact va_S.rf
  clear hHe
  generalize hLe : ([] : List Loc) = locs at hS ⊢
  clear hLe
  refine lv_aload hx hb dL_bill_0 (lv_at hl 6 rfl) ?_
  refine lv_iconst (v := 0) hx hb dL_bill_2 (by decide) ?_
  refine lv_aload_n hx hb dL_bill_3 rfl (lv_at hl 0 rfl) ?_
  refine lv_iload_n hx hb dL_bill_4 rfl (lv_at hl 1 rfl) ?_
  refine lv_iload_n hx hb dL_bill_5 rfl (lv_at hl 2 rfl) ?_
  refine lv_iload_n hx hb dL_bill_6 rfl (lv_at hl 3 rfl) ?_
  refine lv_iload hx hb dL_bill_7 (lv_at hl 4 rfl) ?_
  refine lv_iload hx hb dL_bill_9 (lv_at hl 5 rfl) ?_
  rcases (show billK n cu am rf rt dy = 0 ∨ billK n cu am rf rt dy = 1 ∨ billK n cu am rf rt dy = 2 ∨ billK n cu am rf rt dy = 3 from billK_c).resolve_left hk with hk1 | hk2 | hk3
  · -- 1
    refine zxV (ci := 3) (q0 := 0) ksCA ⟨hx, hb, hml, hown, hts⟩ (zwCA hP hD hS hA) hK hX hZ (x_X3_bill l hfl D cI cZ a H.size (B) (R) (E) (td) (n) (cu) (am) (rf) (rt) (dy) eI (hB) (hn) (hk) (by rw [hk1]; rfl)) (cwV 5 hts gL_bill_X3_bill rfl rfl rfl (by decide +kernel) ⟨Nat.le_of_ble_eq_true rfl, Nat.le_of_ble_eq_true rfl⟩) rfl rfl (by decide) (zkCA _) rfl hl.1 rfl (Nat.le_of_ble_eq_true rfl) dL_bill_11 ⟨Nat.le_of_ble_eq_true rfl, Nat.le_of_ble_eq_true rfl⟩ (fun ce q9 H locs hP hD hS hce hcv hcl => ?_)
    refine vx_catch (E := eI) (name := eI) hown [] ⟨0, 16, 19, 13⟩ [⟨0, 16, 23, 15⟩, ⟨0, 16, 27, 17⟩] htab (fun z hz => nomatch hz) rfl (by decide) (hts (.classLink RL 13 "java/lang/IndexOutOfBoundsException") (by decide +kernel)) (va_Nw.use rfl (hX.1.2.1)) hce hcv hcl ?_
    refine lv_astore (lv' := [(7, .ref (q9)), (0, .ref (a 0)), (1, .int (cu)), (2, .int (am)), (3, .int (rf)), (4, .int (rt)), (5, .int (dy)), (6, .ref (a 26))]) hx hb dL_bill_19 hl (by decide) rfl (fun ls hl => ?_)
    refine lv_iconst (v := 1) hx hb dL_bill_21 (by decide) ?_
    exact W.iret (v := 1) hx hb hr (fun t ht hW => ⟨⟨1, (), rfl, (by rw [hk1]; rfl), by rw [ht]; exact hP, va_K.moved hW.alike hK3, hD⟩, hS.F ht⟩) hS.2.2 dL_bill_22
  · -- 2
    refine zxV (ci := 3) (q0 := 0) ksCA ⟨hx, hb, hml, hown, hts⟩ (zwCA hP hD hS hA) hK hX hZ (x_X3_bill l hfl D cI cZ a H.size (B) (R) (E) (td) (n) (cu) (am) (rf) (rt) (dy) eA (hB) (hn) (hk) (by rw [hk2]; rfl)) (cwV 5 hts gL_bill_X3_bill rfl rfl rfl (by decide +kernel) ⟨Nat.le_of_ble_eq_true rfl, Nat.le_of_ble_eq_true rfl⟩) rfl rfl (by decide) (zkCA _) rfl hl.1 rfl (Nat.le_of_ble_eq_true rfl) dL_bill_11 ⟨Nat.le_of_ble_eq_true rfl, Nat.le_of_ble_eq_true rfl⟩ (fun ce q9 H locs hP hD hS hce hcv hcl => ?_)
    refine vx_catch (E := eA) (name := eA) hown [⟨0, 16, 19, 13⟩] ⟨0, 16, 23, 15⟩ [⟨0, 16, 27, 17⟩] htab (List.forall_mem_cons.mpr ⟨Or.inr ⟨by decide, eI, hts (.classLink RL 13 "java/lang/IndexOutOfBoundsException") (by decide +kernel), hX.2.2.1⟩, fun z hz => nomatch hz⟩) rfl (by decide) (hts (.classLink RL 15 "java/lang/IllegalArgumentException") (by decide +kernel)) (va_Nw.use rfl (hX.1.2.2.1)) hce hcv hcl ?_
    refine lv_astore (lv' := [(7, .ref (q9)), (0, .ref (a 0)), (1, .int (cu)), (2, .int (am)), (3, .int (rf)), (4, .int (rt)), (5, .int (dy)), (6, .ref (a 26))]) hx hb dL_bill_23 hl (by decide) rfl (fun ls hl => ?_)
    refine lv_iconst (v := 2) hx hb dL_bill_25 (by decide) ?_
    exact W.iret (v := 2) hx hb hr (fun t ht hW => ⟨⟨2, (), rfl, (by rw [hk2]; rfl), by rw [ht]; exact hP, va_K.moved hW.alike hK3, hD⟩, hS.F ht⟩) hS.2.2 dL_bill_26
  · -- 3
    refine zxV (ci := 3) (q0 := 0) ksCA ⟨hx, hb, hml, hown, hts⟩ (zwCA hP hD hS hA) hK hX hZ (x_X3_bill l hfl D cI cZ a H.size (B) (R) (E) (td) (n) (cu) (am) (rf) (rt) (dy) eS (hB) (hn) (hk) (by rw [hk3]; rfl)) (cwV 5 hts gL_bill_X3_bill rfl rfl rfl (by decide +kernel) ⟨Nat.le_of_ble_eq_true rfl, Nat.le_of_ble_eq_true rfl⟩) rfl rfl (by decide) (zkCA _) rfl hl.1 rfl (Nat.le_of_ble_eq_true rfl) dL_bill_11 ⟨Nat.le_of_ble_eq_true rfl, Nat.le_of_ble_eq_true rfl⟩ (fun ce q9 H locs hP hD hS hce hcv hcl => ?_)
    refine vx_catch (E := eS) (name := eS) hown [⟨0, 16, 19, 13⟩, ⟨0, 16, 23, 15⟩] ⟨0, 16, 27, 17⟩ [] htab (List.forall_mem_cons.mpr ⟨Or.inr ⟨by decide, eI, hts (.classLink RL 13 "java/lang/IndexOutOfBoundsException") (by decide +kernel), hX.2.2.2.1⟩, List.forall_mem_cons.mpr ⟨Or.inr ⟨by decide, eA, hts (.classLink RL 15 "java/lang/IllegalArgumentException") (by decide +kernel), hX.2.2.2.2⟩, fun z hz => nomatch hz⟩⟩) rfl (by decide) (hts (.classLink RL 17 "java/lang/IllegalStateException") (by decide +kernel)) (va_Nw.use rfl (hX.1.2.2.2)) hce hcv hcl ?_
    refine lv_astore (lv' := [(7, .ref (q9)), (0, .ref (a 0)), (1, .int (cu)), (2, .int (am)), (3, .int (rf)), (4, .int (rt)), (5, .int (dy)), (6, .ref (a 26))]) hx hb dL_bill_27 hl (by decide) rfl (fun ls hl => ?_)
    refine lv_iconst (v := 3) hx hb dL_bill_29 (by decide) ?_
    exact W.iret (v := 3) hx hb hr (fun t ht hW => ⟨⟨3, (), rfl, (by rw [hk3]; rfl), by rw [ht]; exact hP, va_K.moved hW.alike hK3, hD⟩, hS.F ht⟩) hS.2.2 dL_bill_30
set_option maxHeartbeats 4000000 in
set_option maxRecDepth 100000 in
theorem c_L_receive_0 (l : Launch) (D : va_G) (cI cZ cL : ClassId) (a : Nat → Nat) (sz : Nat) (B : Nat → Nat → Int32) (R : Nat → Nat → Int32) (E : Nat → Nat → Int32) (td : Int32) (n : Nat) (q : Nat) (cu : Int32) (am : Int32) (rf : Int32) (oo : Nat → Int64) (hB : B 11 0 = nI n) (hn : n ≤ 40) (hR : R 8 0 = nI q) (hq : q < 30) (hcu : cu = -1 ∨ (¬ cu < 0 ∧ cu < 8)) (h3 : ¬ am < 1) (h4 : am ≤ 1000000) (h5 : ¬ rf < 0) (h6 : rf ≤ 9999) : Met l yL_receive wsL_receive ({ frames := 7, cells := 0, slots := 0, locals := 160 } : Room) (va_Pc [.ref (a 0), .int (cu), .int (am), .int (rf), .ref (a 26)] (PreL D cI cZ cL (wL a cI cZ cL B R E (td) oo) sz)) (va_Qi (fun (r : Int32) (u : Unit) => r = 0) (fun (u : Unit) => PostL D cI cZ cL (va_A (wL a cI cZ cL B R E (td) oo) sz) (wL a cI cZ cL ((rcvS B R E q cu am rf n td).1) ((rcvS B R E q cu am rf n td).2.1) ((rcvS B R E q cu am rf n td).2.2) (td) (vp_updL oo 0 (nI q).toInt64))) (va_A (wL a cI cZ cL B R E (td) oo) sz)) 0 0 (va_A (wL a cI cZ cL B R E (td) oo) sz) := by
  refine va_MetW (cc := cL_receive) (maxL := 6) (ret := (some .int)) (hh := [(0, 12, 15, 13), (0, 12, 19, 15), (0, 12, 23, 17)]) (by decide) rfl ?_
  intro p e s m args below meth c s₁ BB hml hv
  obtain ⟨rfl, ⟨hsz, hP, hK3, hD0⟩, hX, hZ⟩ := hv
  have hx := BB.exec
  have hb := BB.bytes
  have hr := BB.returns
  have hts := atoms_spec (ws := wsL_receive) BB.pre
  have hown : s.vm.findClass RL = some m.cls := findClass_of_methodNamed BB.named
  have hlocks := BB.notSynchronized
  clear BB
  subst hsz
  have hK := hK3.sub (tys' := tyl cI cZ) [0, 1] rfl
  have hD := hD0.self (sz := s.heap.size)
  clear hD0
  generalize hAe : va_A (wL a cI cZ cL B R E (td) oo) s.heap.size = A at hD hZ ⊢
  have hA : ∀ q : Nat, s.heap.size ≤ q → A q := fun q h => by rw [← hAe]; exact Or.inr h
  clear hAe
  have hl := lv_entry ([.ref (a 0), .int (cu), .int (am), .int (rf), .ref (a 26)]) (n := 6) (Nat.le_of_ble_eq_true rfl)
  rw [lg_entry_eq]
  generalize (lg_sl ([.ref (a 0), .int (cu), .int (am), .int (rf), .ref (a 26)]) ++ List.replicate (6 - (lg_sl ([.ref (a 0), .int (cu), .int (am), .int (rf), .ref (a 26)])).length) Slot.unset).toArray = ls at hl ⊢
  have hl : lv_has ls 6 [(0, .ref (a 0)), (1, .int (cu)), (2, .int (am)), (3, .int (rf)), (4, .ref (a 26))] := hl
  generalize hHe : s.heap = H at hP ⊢
  have hS : va_S A s.heap H [] := by rw [← hHe]; exact va_S.rf
  clear hHe
  generalize hLe : ([] : List Loc) = locs at hS ⊢
  clear hLe
  refine lv_aload hx hb dL_receive_0 (lv_at hl 4 rfl) ?_
  refine lv_iconst (v := 0) hx hb dL_receive_2 (by decide) ?_
  refine lv_aload_n hx hb dL_receive_3 rfl (lv_at hl 0 rfl) ?_
  refine lv_iload_n hx hb dL_receive_4 rfl (lv_at hl 1 rfl) ?_
  refine lv_iload_n hx hb dL_receive_5 rfl (lv_at hl 2 rfl) ?_
  refine lv_iload_n hx hb dL_receive_6 rfl (lv_at hl 3 rfl) ?_
  refine zcVi (ci := 3) (q0 := 0) (wf := (fun (u : (Nat → Nat → Int32) × (Nat → Nat → Int32) × (Nat → Nat → Int32)) => (wL a cI cZ cL (u.1) (u.2.1) (u.2.2) (td) oo))) ksCA ⟨hx, hb, hml, hown, hts⟩ (zwCA hP hD hS hA) hK (c_X3_receive l D cI cZ a H.size (B) (R) (E) (td) (n) (q) (cu) (am) (rf) (by first | assumption | omega) (by first | assumption | omega) (by first | assumption | omega) (by first | assumption | omega) (by first | assumption | omega) (by first | assumption | omega) (by first | assumption | omega) (by first | assumption | omega) (by first | assumption | omega)) (cwV 3 hts gL_receive_X3_receive rfl rfl rfl (by decide +kernel) ⟨Nat.le_of_ble_eq_true rfl, Nat.le_of_ble_eq_true rfl⟩) rfl rfl (by decide) (fun _ => zkCA _) rfl hl.1 rfl (Nat.le_of_ble_eq_true rfl) dL_receive_7 ⟨Nat.le_of_ble_eq_true rfl, Nat.le_of_ble_eq_true rfl⟩ (fun r7 u H locs hw hP hD hS => ?_)
  obtain ⟨rfl, rfl⟩ := hw
  have hP : va_P D vwCl (wL a cI cZ cL ((rcvS (B) (R) (E) q (cu) (am) (rf) n (td)).1) ((rcvS (B) (R) (E) q (cu) (am) (rf) n (td)).2.1) ((rcvS (B) (R) (E) q (cu) (am) (rf) n (td)).2.2) (td) oo) H := hP
  have hD : va_D A (wL a cI cZ cL ((rcvS (B) (R) (E) q (cu) (am) (rf) n (td)).1) ((rcvS (B) (R) (E) q (cu) (am) (rf) n (td)).2.1) ((rcvS (B) (R) (E) q (cu) (am) (rf) n (td)).2.2) (td) oo) := hD
  refine lv_i2l (v := (nI q).toInt64) hx hb dL_receive_10 rfl ?_
  refine zlst hx hb hK3 hP hD hS 26 rfl (wL a cI cZ cL ((rcvS B R E q cu am rf n td).1) ((rcvS B R E q cu am rf n td).2.1) ((rcvS B R E q cu am rf n td).2.2) (td) (vp_updL oo 0 (nI q).toInt64)) rfl dL_receive_11 (fun H locs hP hD hS => ?_)
  refine lv_goto (tgt := 27) hx hb dL_receive_12 (by decide) ?_
  refine lv_iconst (v := 0) hx hb dL_receive_27 (by decide) ?_
  exact W.iret (v := 0) hx hb hr (fun t ht hW => ⟨⟨0, (), rfl, rfl, by rw [ht]; exact hP, va_K.moved hW.alike hK3, hD⟩, hS.F ht⟩) hS.2.2 dL_receive_28
set_option maxHeartbeats 4000000 in
set_option maxRecDepth 100000 in
theorem c_L_receive_k (l : Launch) (hfl : l.stackTraces = false) (D : va_G) (cI cZ cL : ClassId) (a : Nat → Nat) (sz : Nat) (B : Nat → Nat → Int32) (R : Nat → Nat → Int32) (E : Nat → Nat → Int32) (td : Int32) (q : Nat) (cu : Int32) (am : Int32) (rf : Int32) (oo : Nat → Int64) (hR : R 8 0 = nI q) (hq : q ≤ 30) (hk : ¬ rcvK q cu am rf = 0) : Met l yL_receive wsL_receive ({ frames := 8, cells := 1, slots := 6, locals := 160 } : Room) (va_Pc [.ref (a 0), .int (cu), .int (am), .int (rf), .ref (a 26)] (PreL D cI cZ cL (wL a cI cZ cL B R E (td) oo) sz)) (va_Qi (fun (r : Int32) (u : Unit) => r = nI (rcvK q cu am rf)) (fun (u : Unit) => PostL D cI cZ cL (va_A (wL a cI cZ cL B R E (td) oo) sz) (wL a cI cZ cL B R E (td) oo)) (va_A (wL a cI cZ cL B R E (td) oo) sz)) 1 6 (va_A (wL a cI cZ cL B R E (td) oo) sz) := by
  refine va_MetW (cc := cL_receive) (maxL := 6) (ret := (some .int)) (hh := [(0, 12, 15, 13), (0, 12, 19, 15), (0, 12, 23, 17)]) (by decide) rfl ?_
  intro p e s m args below meth c s₁ BB hml hv
  obtain ⟨rfl, ⟨hsz, hP, hK3, hD0⟩, hX, hZ⟩ := hv
  have hx := BB.exec
  have hb := BB.bytes
  have hr := BB.returns
  have hts := atoms_spec (ws := wsL_receive) BB.pre
  have hown : s.vm.findClass RL = some m.cls := findClass_of_methodNamed BB.named
  have hlocks := BB.notSynchronized
  have htab : c.exceptionTable.toList = tableOf [(0, 12, 15, 13), (0, 12, 19, 15), (0, 12, 23, 17)] := vx_table (x := yL_receive) BB (hts (.codeWith yL_receive cL_receive 6 (some .int) [(0, 12, 15, 13), (0, 12, 19, 15), (0, 12, 23, 17)]) List.mem_cons_self)
  clear BB
  subst hsz
  have hK := hK3.sub (tys' := tyl cI cZ) [0, 1] rfl
  have hD := hD0.self (sz := s.heap.size)
  clear hD0
  generalize hAe : va_A (wL a cI cZ cL B R E (td) oo) s.heap.size = A at hD hZ ⊢
  have hA : ∀ q : Nat, s.heap.size ≤ q → A q := fun q h => by rw [← hAe]; exact Or.inr h
  clear hAe
  have hl := lv_entry ([.ref (a 0), .int (cu), .int (am), .int (rf), .ref (a 26)]) (n := 6) (Nat.le_of_ble_eq_true rfl)
  rw [lg_entry_eq]
  generalize (lg_sl ([.ref (a 0), .int (cu), .int (am), .int (rf), .ref (a 26)]) ++ List.replicate (6 - (lg_sl ([.ref (a 0), .int (cu), .int (am), .int (rf), .ref (a 26)])).length) Slot.unset).toArray = ls at hl ⊢
  have hl : lv_has ls 6 [(0, .ref (a 0)), (1, .int (cu)), (2, .int (am)), (3, .int (rf)), (4, .ref (a 26))] := hl
  generalize hHe : s.heap = H at hP ⊢
  have hS : va_S A s.heap H [] := by rw [← hHe]; exact va_S.rf
  clear hHe
  generalize hLe : ([] : List Loc) = locs at hS ⊢
  clear hLe
  refine lv_aload hx hb dL_receive_0 (lv_at hl 4 rfl) ?_
  refine lv_iconst (v := 0) hx hb dL_receive_2 (by decide) ?_
  refine lv_aload_n hx hb dL_receive_3 rfl (lv_at hl 0 rfl) ?_
  refine lv_iload_n hx hb dL_receive_4 rfl (lv_at hl 1 rfl) ?_
  refine lv_iload_n hx hb dL_receive_5 rfl (lv_at hl 2 rfl) ?_
  refine lv_iload_n hx hb dL_receive_6 rfl (lv_at hl 3 rfl) ?_
  rcases (show rcvK q cu am rf = 0 ∨ rcvK q cu am rf = 1 ∨ rcvK q cu am rf = 2 ∨ rcvK q cu am rf = 3 from rcvK_c).resolve_left hk with hk1 | hk2 | hk3
  · -- 1
    refine zxV (ci := 3) (q0 := 0) ksCA ⟨hx, hb, hml, hown, hts⟩ (zwCA hP hD hS hA) hK hX hZ (x_X3_receive l hfl D cI cZ a H.size (B) (R) (E) (td) (q) (cu) (am) (rf) eI (hR) (hq) (hk) (by rw [hk1]; rfl)) (cwV 3 hts gL_receive_X3_receive rfl rfl rfl (by decide +kernel) ⟨Nat.le_of_ble_eq_true rfl, Nat.le_of_ble_eq_true rfl⟩) rfl rfl (by decide) (zkCA _) rfl hl.1 rfl (Nat.le_of_ble_eq_true rfl) dL_receive_7 ⟨Nat.le_of_ble_eq_true rfl, Nat.le_of_ble_eq_true rfl⟩ (fun ce q9 H locs hP hD hS hce hcv hcl => ?_)
    refine vx_catch (E := eI) (name := eI) hown [] ⟨0, 12, 15, 13⟩ [⟨0, 12, 19, 15⟩, ⟨0, 12, 23, 17⟩] htab (fun z hz => nomatch hz) rfl (by decide) (hts (.classLink RL 13 "java/lang/IndexOutOfBoundsException") (by decide +kernel)) (va_Nw.use rfl (hX.1.2.1)) hce hcv hcl ?_
    refine lv_astore (lv' := [(5, .ref (q9)), (0, .ref (a 0)), (1, .int (cu)), (2, .int (am)), (3, .int (rf)), (4, .ref (a 26))]) hx hb dL_receive_15 hl (by decide) rfl (fun ls hl => ?_)
    refine lv_iconst (v := 1) hx hb dL_receive_17 (by decide) ?_
    exact W.iret (v := 1) hx hb hr (fun t ht hW => ⟨⟨1, (), rfl, (by rw [hk1]; rfl), by rw [ht]; exact hP, va_K.moved hW.alike hK3, hD⟩, hS.F ht⟩) hS.2.2 dL_receive_18
  · -- 2
    refine zxV (ci := 3) (q0 := 0) ksCA ⟨hx, hb, hml, hown, hts⟩ (zwCA hP hD hS hA) hK hX hZ (x_X3_receive l hfl D cI cZ a H.size (B) (R) (E) (td) (q) (cu) (am) (rf) eA (hR) (hq) (hk) (by rw [hk2]; rfl)) (cwV 3 hts gL_receive_X3_receive rfl rfl rfl (by decide +kernel) ⟨Nat.le_of_ble_eq_true rfl, Nat.le_of_ble_eq_true rfl⟩) rfl rfl (by decide) (zkCA _) rfl hl.1 rfl (Nat.le_of_ble_eq_true rfl) dL_receive_7 ⟨Nat.le_of_ble_eq_true rfl, Nat.le_of_ble_eq_true rfl⟩ (fun ce q9 H locs hP hD hS hce hcv hcl => ?_)
    refine vx_catch (E := eA) (name := eA) hown [⟨0, 12, 15, 13⟩] ⟨0, 12, 19, 15⟩ [⟨0, 12, 23, 17⟩] htab (List.forall_mem_cons.mpr ⟨Or.inr ⟨by decide, eI, hts (.classLink RL 13 "java/lang/IndexOutOfBoundsException") (by decide +kernel), hX.2.2.1⟩, fun z hz => nomatch hz⟩) rfl (by decide) (hts (.classLink RL 15 "java/lang/IllegalArgumentException") (by decide +kernel)) (va_Nw.use rfl (hX.1.2.2.1)) hce hcv hcl ?_
    refine lv_astore (lv' := [(5, .ref (q9)), (0, .ref (a 0)), (1, .int (cu)), (2, .int (am)), (3, .int (rf)), (4, .ref (a 26))]) hx hb dL_receive_19 hl (by decide) rfl (fun ls hl => ?_)
    refine lv_iconst (v := 2) hx hb dL_receive_21 (by decide) ?_
    exact W.iret (v := 2) hx hb hr (fun t ht hW => ⟨⟨2, (), rfl, (by rw [hk2]; rfl), by rw [ht]; exact hP, va_K.moved hW.alike hK3, hD⟩, hS.F ht⟩) hS.2.2 dL_receive_22
  · -- 3
    refine zxV (ci := 3) (q0 := 0) ksCA ⟨hx, hb, hml, hown, hts⟩ (zwCA hP hD hS hA) hK hX hZ (x_X3_receive l hfl D cI cZ a H.size (B) (R) (E) (td) (q) (cu) (am) (rf) eS (hR) (hq) (hk) (by rw [hk3]; rfl)) (cwV 3 hts gL_receive_X3_receive rfl rfl rfl (by decide +kernel) ⟨Nat.le_of_ble_eq_true rfl, Nat.le_of_ble_eq_true rfl⟩) rfl rfl (by decide) (zkCA _) rfl hl.1 rfl (Nat.le_of_ble_eq_true rfl) dL_receive_7 ⟨Nat.le_of_ble_eq_true rfl, Nat.le_of_ble_eq_true rfl⟩ (fun ce q9 H locs hP hD hS hce hcv hcl => ?_)
    refine vx_catch (E := eS) (name := eS) hown [⟨0, 12, 15, 13⟩, ⟨0, 12, 19, 15⟩] ⟨0, 12, 23, 17⟩ [] htab (List.forall_mem_cons.mpr ⟨Or.inr ⟨by decide, eI, hts (.classLink RL 13 "java/lang/IndexOutOfBoundsException") (by decide +kernel), hX.2.2.2.1⟩, List.forall_mem_cons.mpr ⟨Or.inr ⟨by decide, eA, hts (.classLink RL 15 "java/lang/IllegalArgumentException") (by decide +kernel), hX.2.2.2.2⟩, fun z hz => nomatch hz⟩⟩) rfl (by decide) (hts (.classLink RL 17 "java/lang/IllegalStateException") (by decide +kernel)) (va_Nw.use rfl (hX.1.2.2.2)) hce hcv hcl ?_
    refine lv_astore (lv' := [(5, .ref (q9)), (0, .ref (a 0)), (1, .int (cu)), (2, .int (am)), (3, .int (rf)), (4, .ref (a 26))]) hx hb dL_receive_23 hl (by decide) rfl (fun ls hl => ?_)
    refine lv_iconst (v := 3) hx hb dL_receive_25 (by decide) ?_
    exact W.iret (v := 3) hx hb hr (fun t ht hW => ⟨⟨3, (), rfl, (by rw [hk3]; rfl), by rw [ht]; exact hP, va_K.moved hW.alike hK3, hD⟩, hS.F ht⟩) hS.2.2 dL_receive_26
set_option maxHeartbeats 4000000 in
set_option maxRecDepth 100000 in
theorem c_L_assign_0 (l : Launch) (D : va_G) (cI cZ cL : ClassId) (a : Nat → Nat) (sz : Nat) (B : Nat → Nat → Int32) (R : Nat → Nat → Int32) (E : Nat → Nat → Int32) (td : Int32) (n : Nat) (q : Nat) (rc : Nat) (cu : Int32) (oo : Nat → Int64) (hB : B 11 0 = nI n) (hn : n ≤ 40) (hR : R 8 0 = nI q) (hq : q ≤ 30) (hrq : rc < q) (h1 : ¬ cu < 0) (h2 : cu < 8) (h5 : R 5 rc = 0) (h0 : R 0 rc = -1) : Met l yL_assign wsL_assign ({ frames := 7, cells := 0, slots := 0, locals := 158 } : Room) (va_Pc [.ref (a 0), .int (nI (rc)), .int (cu), .ref (a 26)] (PreL D cI cZ cL (wL a cI cZ cL B R E (td) oo) sz)) (va_Qi (fun (r : Int32) (u : Unit) => r = 0) (fun (u : Unit) => PostL D cI cZ cL (va_A (wL a cI cZ cL B R E (td) oo) sz) (wL a cI cZ cL ((othS B (pt R 0 rc cu) E rc n td).1) ((othS B (pt R 0 rc cu) E rc n td).2.1) ((othS B (pt R 0 rc cu) E rc n td).2.2) (td) (vp_updL oo 0 ((othS B (pt R 0 rc cu) E rc n td).2.1 3 rc).toInt64))) (va_A (wL a cI cZ cL B R E (td) oo) sz)) 0 0 (va_A (wL a cI cZ cL B R E (td) oo) sz) := by
  refine va_MetW (cc := cL_assign) (maxL := 5) (ret := (some .int)) (hh := [(0, 10, 13, 13), (0, 10, 17, 17)]) (by decide) rfl ?_
  intro p e s m args below meth c s₁ BB hml hv
  obtain ⟨rfl, ⟨hsz, hP, hK3, hD0⟩, hX, hZ⟩ := hv
  have hx := BB.exec
  have hb := BB.bytes
  have hr := BB.returns
  have hts := atoms_spec (ws := wsL_assign) BB.pre
  have hown : s.vm.findClass RL = some m.cls := findClass_of_methodNamed BB.named
  have hlocks := BB.notSynchronized
  clear BB
  subst hsz
  have hK := hK3.sub (tys' := tyl cI cZ) [0, 1] rfl
  have hD := hD0.self (sz := s.heap.size)
  clear hD0
  generalize hAe : va_A (wL a cI cZ cL B R E (td) oo) s.heap.size = A at hD hZ ⊢
  have hA : ∀ q : Nat, s.heap.size ≤ q → A q := fun q h => by rw [← hAe]; exact Or.inr h
  clear hAe
  have hl := lv_entry ([.ref (a 0), .int (nI (rc)), .int (cu), .ref (a 26)]) (n := 5) (Nat.le_of_ble_eq_true rfl)
  rw [lg_entry_eq]
  generalize (lg_sl ([.ref (a 0), .int (nI (rc)), .int (cu), .ref (a 26)]) ++ List.replicate (5 - (lg_sl ([.ref (a 0), .int (nI (rc)), .int (cu), .ref (a 26)])).length) Slot.unset).toArray = ls at hl ⊢
  have hl : lv_has ls 5 [(0, .ref (a 0)), (1, .int (nI (rc))), (2, .int (cu)), (3, .ref (a 26))] := hl
  generalize hHe : s.heap = H at hP ⊢
  have hS : va_S A s.heap H [] := by rw [← hHe]; exact va_S.rf
  clear hHe
  generalize hLe : ([] : List Loc) = locs at hS ⊢
  clear hLe
  refine lv_aload_n hx hb dL_assign_0 rfl (lv_at hl 3 rfl) ?_
  refine lv_iconst (v := 0) hx hb dL_assign_1 (by decide) ?_
  refine lv_aload_n hx hb dL_assign_2 rfl (lv_at hl 0 rfl) ?_
  refine lv_iload_n hx hb dL_assign_3 rfl (lv_at hl 1 rfl) ?_
  refine lv_iload_n hx hb dL_assign_4 rfl (lv_at hl 2 rfl) ?_
  refine zcVi (ci := 3) (q0 := 0) (wf := (fun (u : (Nat → Nat → Int32) × (Nat → Nat → Int32) × (Nat → Nat → Int32)) => (wL a cI cZ cL (u.1) (u.2.1) (u.2.2) (td) oo))) ksCA ⟨hx, hb, hml, hown, hts⟩ (zwCA hP hD hS hA) hK (c_X3_assign l D cI cZ a H.size (B) (R) (E) (td) (n) (q) (rc) (cu) (by first | assumption | omega) (by first | assumption | omega) (by first | assumption | omega) (by first | assumption | omega) (by first | assumption | omega) (by first | assumption | omega) (by first | assumption | omega) (by first | assumption | omega) (by first | assumption | omega)) (cwV 2 hts gL_assign_X3_assign rfl rfl rfl (by decide +kernel) ⟨Nat.le_of_ble_eq_true rfl, Nat.le_of_ble_eq_true rfl⟩) rfl rfl (by decide) (fun _ => zkCA _) rfl hl.1 rfl (Nat.le_of_ble_eq_true rfl) dL_assign_5 ⟨Nat.le_of_ble_eq_true rfl, Nat.le_of_ble_eq_true rfl⟩ (fun r5 u H locs hw hP hD hS => ?_)
  obtain ⟨rfl, rfl⟩ := hw
  have hP : va_P D vwCl (wL a cI cZ cL ((othS (B) (pt (R) 0 (rc) (cu)) (E) (rc) n (td)).1) ((othS (B) (pt (R) 0 (rc) (cu)) (E) (rc) n (td)).2.1) ((othS (B) (pt (R) 0 (rc) (cu)) (E) (rc) n (td)).2.2) (td) oo) H := hP
  have hD : va_D A (wL a cI cZ cL ((othS (B) (pt (R) 0 (rc) (cu)) (E) (rc) n (td)).1) ((othS (B) (pt (R) 0 (rc) (cu)) (E) (rc) n (td)).2.1) ((othS (B) (pt (R) 0 (rc) (cu)) (E) (rc) n (td)).2.2) (td) oo) := hD
  refine lv_i2l (v := ((othS (B) (pt (R) 0 (rc) (cu)) (E) (rc) n (td)).2.1 3 (rc)).toInt64) hx hb dL_assign_8 rfl ?_
  refine zlst hx hb hK3 hP hD hS 26 rfl (wL a cI cZ cL ((othS B (pt R 0 rc cu) E rc n td).1) ((othS B (pt R 0 rc cu) E rc n td).2.1) ((othS B (pt R 0 rc cu) E rc n td).2.2) (td) (vp_updL oo 0 ((othS B (pt R 0 rc cu) E rc n td).2.1 3 rc).toInt64)) rfl dL_assign_9 (fun H locs hP hD hS => ?_)
  refine lv_goto (tgt := 21) hx hb dL_assign_10 (by decide) ?_
  refine lv_iconst (v := 0) hx hb dL_assign_21 (by decide) ?_
  exact W.iret (v := 0) hx hb hr (fun t ht hW => ⟨⟨0, (), rfl, rfl, by rw [ht]; exact hP, va_K.moved hW.alike hK3, hD⟩, hS.F ht⟩) hS.2.2 dL_assign_22
set_option maxHeartbeats 4000000 in
set_option maxRecDepth 100000 in
theorem c_L_assign_k (l : Launch) (hfl : l.stackTraces = false) (D : va_G) (cI cZ cL : ClassId) (a : Nat → Nat) (sz : Nat) (B : Nat → Nat → Int32) (R : Nat → Nat → Int32) (E : Nat → Nat → Int32) (td : Int32) (q : Nat) (vx : Int32) (cu : Int32) (oo : Nat → Int64) (hR : R 8 0 = nI q) (hq : q ≤ 30) (hk : ¬ asgK R vx cu = 0) : Met l yL_assign wsL_assign ({ frames := 8, cells := 1, slots := 6, locals := 158 } : Room) (va_Pc [.ref (a 0), .int (vx), .int (cu), .ref (a 26)] (PreL D cI cZ cL (wL a cI cZ cL B R E (td) oo) sz)) (va_Qi (fun (r : Int32) (u : Unit) => r = nI (asgK R vx cu)) (fun (u : Unit) => PostL D cI cZ cL (va_A (wL a cI cZ cL B R E (td) oo) sz) (wL a cI cZ cL B R E (td) oo)) (va_A (wL a cI cZ cL B R E (td) oo) sz)) 1 6 (va_A (wL a cI cZ cL B R E (td) oo) sz) := by
  refine va_MetW (cc := cL_assign) (maxL := 5) (ret := (some .int)) (hh := [(0, 10, 13, 13), (0, 10, 17, 17)]) (by decide) rfl ?_
  intro p e s m args below meth c s₁ BB hml hv
  obtain ⟨rfl, ⟨hsz, hP, hK3, hD0⟩, hX, hZ⟩ := hv
  have hx := BB.exec
  have hb := BB.bytes
  have hr := BB.returns
  have hts := atoms_spec (ws := wsL_assign) BB.pre
  have hown : s.vm.findClass RL = some m.cls := findClass_of_methodNamed BB.named
  have hlocks := BB.notSynchronized
  have htab : c.exceptionTable.toList = tableOf [(0, 10, 13, 13), (0, 10, 17, 17)] := vx_table (x := yL_assign) BB (hts (.codeWith yL_assign cL_assign 5 (some .int) [(0, 10, 13, 13), (0, 10, 17, 17)]) List.mem_cons_self)
  clear BB
  subst hsz
  have hK := hK3.sub (tys' := tyl cI cZ) [0, 1] rfl
  have hD := hD0.self (sz := s.heap.size)
  clear hD0
  generalize hAe : va_A (wL a cI cZ cL B R E (td) oo) s.heap.size = A at hD hZ ⊢
  have hA : ∀ q : Nat, s.heap.size ≤ q → A q := fun q h => by rw [← hAe]; exact Or.inr h
  clear hAe
  have hl := lv_entry ([.ref (a 0), .int (vx), .int (cu), .ref (a 26)]) (n := 5) (Nat.le_of_ble_eq_true rfl)
  rw [lg_entry_eq]
  generalize (lg_sl ([.ref (a 0), .int (vx), .int (cu), .ref (a 26)]) ++ List.replicate (5 - (lg_sl ([.ref (a 0), .int (vx), .int (cu), .ref (a 26)])).length) Slot.unset).toArray = ls at hl ⊢
  have hl : lv_has ls 5 [(0, .ref (a 0)), (1, .int (vx)), (2, .int (cu)), (3, .ref (a 26))] := hl
  generalize hHe : s.heap = H at hP ⊢
  have hS : va_S A s.heap H [] := by rw [← hHe]; exact va_S.rf
  clear hHe
  generalize hLe : ([] : List Loc) = locs at hS ⊢
  clear hLe
  refine lv_aload_n hx hb dL_assign_0 rfl (lv_at hl 3 rfl) ?_
  refine lv_iconst (v := 0) hx hb dL_assign_1 (by decide) ?_
  refine lv_aload_n hx hb dL_assign_2 rfl (lv_at hl 0 rfl) ?_
  refine lv_iload_n hx hb dL_assign_3 rfl (lv_at hl 1 rfl) ?_
  refine lv_iload_n hx hb dL_assign_4 rfl (lv_at hl 2 rfl) ?_
  rcases (show asgK R vx cu = 0 ∨ asgK R vx cu = 1 ∨ asgK R vx cu = 2 from asgK_c).resolve_left hk with hk1 | hk2
  · -- 1
    refine zxV (ci := 3) (q0 := 0) ksCA ⟨hx, hb, hml, hown, hts⟩ (zwCA hP hD hS hA) hK hX hZ (x_X3_assign l hfl D cI cZ a H.size (B) (R) (E) (td) (q) (vx) (cu) eI (hR) (hq) (hk) (by rw [hk1]; rfl)) (cwV 2 hts gL_assign_X3_assign rfl rfl rfl (by decide +kernel) ⟨Nat.le_of_ble_eq_true rfl, Nat.le_of_ble_eq_true rfl⟩) rfl rfl (by decide) (zkCA _) rfl hl.1 rfl (Nat.le_of_ble_eq_true rfl) dL_assign_5 ⟨Nat.le_of_ble_eq_true rfl, Nat.le_of_ble_eq_true rfl⟩ (fun ce q9 H locs hP hD hS hce hcv hcl => ?_)
    refine vx_catch (E := eI) (name := eI) hown [] ⟨0, 10, 13, 13⟩ [⟨0, 10, 17, 17⟩] htab (fun z hz => nomatch hz) rfl (by decide) (hts (.classLink RL 13 "java/lang/IndexOutOfBoundsException") (by decide +kernel)) (va_Nw.use rfl (hX.1.2.1)) hce hcv hcl ?_
    refine lv_astore (lv' := [(4, .ref (q9)), (0, .ref (a 0)), (1, .int (vx)), (2, .int (cu)), (3, .ref (a 26))]) hx hb dL_assign_13 hl (by decide) rfl (fun ls hl => ?_)
    refine lv_iconst (v := 1) hx hb dL_assign_15 (by decide) ?_
    exact W.iret (v := 1) hx hb hr (fun t ht hW => ⟨⟨1, (), rfl, (by rw [hk1]; rfl), by rw [ht]; exact hP, va_K.moved hW.alike hK3, hD⟩, hS.F ht⟩) hS.2.2 dL_assign_16
  · -- 2
    refine zxV (ci := 3) (q0 := 0) ksCA ⟨hx, hb, hml, hown, hts⟩ (zwCA hP hD hS hA) hK hX hZ (x_X3_assign l hfl D cI cZ a H.size (B) (R) (E) (td) (q) (vx) (cu) eS (hR) (hq) (hk) (by rw [hk2]; rfl)) (cwV 2 hts gL_assign_X3_assign rfl rfl rfl (by decide +kernel) ⟨Nat.le_of_ble_eq_true rfl, Nat.le_of_ble_eq_true rfl⟩) rfl rfl (by decide) (zkCA _) rfl hl.1 rfl (Nat.le_of_ble_eq_true rfl) dL_assign_5 ⟨Nat.le_of_ble_eq_true rfl, Nat.le_of_ble_eq_true rfl⟩ (fun ce q9 H locs hP hD hS hce hcv hcl => ?_)
    refine vx_catch (E := eS) (name := eS) hown [⟨0, 10, 13, 13⟩] ⟨0, 10, 17, 17⟩ [] htab (List.forall_mem_cons.mpr ⟨Or.inr ⟨by decide, eI, hts (.classLink RL 13 "java/lang/IndexOutOfBoundsException") (by decide +kernel), hX.2.2.2.1⟩, fun z hz => nomatch hz⟩) rfl (by decide) (hts (.classLink RL 17 "java/lang/IllegalStateException") (by decide +kernel)) (va_Nw.use rfl (hX.1.2.2.2)) hce hcv hcl ?_
    refine lv_astore (lv' := [(4, .ref (q9)), (0, .ref (a 0)), (1, .int (vx)), (2, .int (cu)), (3, .ref (a 26))]) hx hb dL_assign_17 hl (by decide) rfl (fun ls hl => ?_)
    refine lv_iconst (v := 2) hx hb dL_assign_19 (by decide) ?_
    exact W.iret (v := 2) hx hb hr (fun t ht hW => ⟨⟨2, (), rfl, (by rw [hk2]; rfl), by rw [ht]; exact hP, va_K.moved hW.alike hK3, hD⟩, hS.F ht⟩) hS.2.2 dL_assign_20
set_option maxHeartbeats 4000000 in
set_option maxRecDepth 100000 in
theorem c_L_apply_0 (l : Launch) (D : va_G) (cI cZ cL : ClassId) (a : Nat → Nat) (sz : Nat) (B : Nat → Nat → Int32) (R : Nat → Nat → Int32) (E : Nat → Nat → Int32) (td : Int32) (n : Nat) (q : Nat) (rc : Nat) (oo : Nat → Int64) (hB : B 11 0 = nI n) (hn : n ≤ 40) (hR : R 8 0 = nI q) (hq : q ≤ 30) (hrq : rc < q) (h5 : R 5 rc = 0) (h0 : ¬ R 0 rc = -1) : Met l yL_apply wsL_apply ({ frames := 7, cells := 0, slots := 0, locals := 157 } : Room) (va_Pc [.ref (a 0), .int (nI (rc)), .ref (a 26)] (PreL D cI cZ cL (wL a cI cZ cL B R E (td) oo) sz)) (va_Qi (fun (r : Int32) (u : Unit) => r = 0) (fun (u : Unit) => PostL D cI cZ cL (va_A (wL a cI cZ cL B R E (td) oo) sz) (wL a cI cZ cL ((othS B R E rc n td).1) ((othS B R E rc n td).2.1) ((othS B R E rc n td).2.2) (td) (vp_updL oo 0 ((othS B R E rc n td).2.1 3 rc).toInt64))) (va_A (wL a cI cZ cL B R E (td) oo) sz)) 0 0 (va_A (wL a cI cZ cL B R E (td) oo) sz) := by
  refine va_MetW (cc := cL_apply) (maxL := 4) (ret := (some .int)) (hh := [(0, 9, 12, 13), (0, 9, 15, 17)]) (by decide) rfl ?_
  intro p e s m args below meth c s₁ BB hml hv
  obtain ⟨rfl, ⟨hsz, hP, hK3, hD0⟩, hX, hZ⟩ := hv
  have hx := BB.exec
  have hb := BB.bytes
  have hr := BB.returns
  have hts := atoms_spec (ws := wsL_apply) BB.pre
  have hown : s.vm.findClass RL = some m.cls := findClass_of_methodNamed BB.named
  have hlocks := BB.notSynchronized
  clear BB
  subst hsz
  have hK := hK3.sub (tys' := tyl cI cZ) [0, 1] rfl
  have hD := hD0.self (sz := s.heap.size)
  clear hD0
  generalize hAe : va_A (wL a cI cZ cL B R E (td) oo) s.heap.size = A at hD hZ ⊢
  have hA : ∀ q : Nat, s.heap.size ≤ q → A q := fun q h => by rw [← hAe]; exact Or.inr h
  clear hAe
  have hl := lv_entry ([.ref (a 0), .int (nI (rc)), .ref (a 26)]) (n := 4) (Nat.le_of_ble_eq_true rfl)
  rw [lg_entry_eq]
  generalize (lg_sl ([.ref (a 0), .int (nI (rc)), .ref (a 26)]) ++ List.replicate (4 - (lg_sl ([.ref (a 0), .int (nI (rc)), .ref (a 26)])).length) Slot.unset).toArray = ls at hl ⊢
  have hl : lv_has ls 4 [(0, .ref (a 0)), (1, .int (nI (rc))), (2, .ref (a 26))] := hl
  generalize hHe : s.heap = H at hP ⊢
  have hS : va_S A s.heap H [] := by rw [← hHe]; exact va_S.rf
  clear hHe
  generalize hLe : ([] : List Loc) = locs at hS ⊢
  clear hLe
  refine lv_aload_n hx hb dL_apply_0 rfl (lv_at hl 2 rfl) ?_
  refine lv_iconst (v := 0) hx hb dL_apply_1 (by decide) ?_
  refine lv_aload_n hx hb dL_apply_2 rfl (lv_at hl 0 rfl) ?_
  refine lv_iload_n hx hb dL_apply_3 rfl (lv_at hl 1 rfl) ?_
  refine zcVi (ci := 3) (q0 := 0) (wf := (fun (u : (Nat → Nat → Int32) × (Nat → Nat → Int32) × (Nat → Nat → Int32)) => (wL a cI cZ cL (u.1) (u.2.1) (u.2.2) (td) oo))) ksCA ⟨hx, hb, hml, hown, hts⟩ (zwCA hP hD hS hA) hK (c_X3_apply l D cI cZ a H.size (B) (R) (E) (td) (n) (q) (rc) (by first | assumption | omega) (by first | assumption | omega) (by first | assumption | omega) (by first | assumption | omega) (by first | assumption | omega) (by first | assumption | omega) (by first | assumption | omega)) (cwV 1 hts gL_apply_X3_apply rfl rfl rfl (by decide +kernel) ⟨Nat.le_of_ble_eq_true rfl, Nat.le_of_ble_eq_true rfl⟩) rfl rfl (by decide) (fun _ => zkCA _) rfl hl.1 rfl (Nat.le_of_ble_eq_true rfl) dL_apply_4 ⟨Nat.le_of_ble_eq_true rfl, Nat.le_of_ble_eq_true rfl⟩ (fun r4 u H locs hw hP hD hS => ?_)
  obtain ⟨rfl, rfl⟩ := hw
  have hP : va_P D vwCl (wL a cI cZ cL ((othS (B) (R) (E) (rc) n (td)).1) ((othS (B) (R) (E) (rc) n (td)).2.1) ((othS (B) (R) (E) (rc) n (td)).2.2) (td) oo) H := hP
  have hD : va_D A (wL a cI cZ cL ((othS (B) (R) (E) (rc) n (td)).1) ((othS (B) (R) (E) (rc) n (td)).2.1) ((othS (B) (R) (E) (rc) n (td)).2.2) (td) oo) := hD
  refine lv_i2l (v := ((othS (B) (R) (E) (rc) n (td)).2.1 3 (rc)).toInt64) hx hb dL_apply_7 rfl ?_
  refine zlst hx hb hK3 hP hD hS 26 rfl (wL a cI cZ cL ((othS B R E rc n td).1) ((othS B R E rc n td).2.1) ((othS B R E rc n td).2.2) (td) (vp_updL oo 0 ((othS B R E rc n td).2.1 3 rc).toInt64)) rfl dL_apply_8 (fun H locs hP hD hS => ?_)
  refine lv_goto (tgt := 18) hx hb dL_apply_9 (by decide) ?_
  refine lv_iconst (v := 0) hx hb dL_apply_18 (by decide) ?_
  exact W.iret (v := 0) hx hb hr (fun t ht hW => ⟨⟨0, (), rfl, rfl, by rw [ht]; exact hP, va_K.moved hW.alike hK3, hD⟩, hS.F ht⟩) hS.2.2 dL_apply_19
set_option maxHeartbeats 4000000 in
set_option maxRecDepth 100000 in
theorem c_L_apply_k (l : Launch) (hfl : l.stackTraces = false) (D : va_G) (cI cZ cL : ClassId) (a : Nat → Nat) (sz : Nat) (B : Nat → Nat → Int32) (R : Nat → Nat → Int32) (E : Nat → Nat → Int32) (td : Int32) (q : Nat) (vx : Int32) (oo : Nat → Int64) (hR : R 8 0 = nI q) (hq : q ≤ 30) (hk : ¬ aplK R vx = 0) : Met l yL_apply wsL_apply ({ frames := 8, cells := 1, slots := 6, locals := 157 } : Room) (va_Pc [.ref (a 0), .int (vx), .ref (a 26)] (PreL D cI cZ cL (wL a cI cZ cL B R E (td) oo) sz)) (va_Qi (fun (r : Int32) (u : Unit) => r = nI (aplK R vx)) (fun (u : Unit) => PostL D cI cZ cL (va_A (wL a cI cZ cL B R E (td) oo) sz) (wL a cI cZ cL B R E (td) oo)) (va_A (wL a cI cZ cL B R E (td) oo) sz)) 1 6 (va_A (wL a cI cZ cL B R E (td) oo) sz) := by
  refine va_MetW (cc := cL_apply) (maxL := 4) (ret := (some .int)) (hh := [(0, 9, 12, 13), (0, 9, 15, 17)]) (by decide) rfl ?_
  intro p e s m args below meth c s₁ BB hml hv
  obtain ⟨rfl, ⟨hsz, hP, hK3, hD0⟩, hX, hZ⟩ := hv
  have hx := BB.exec
  have hb := BB.bytes
  have hr := BB.returns
  have hts := atoms_spec (ws := wsL_apply) BB.pre
  have hown : s.vm.findClass RL = some m.cls := findClass_of_methodNamed BB.named
  have hlocks := BB.notSynchronized
  have htab : c.exceptionTable.toList = tableOf [(0, 9, 12, 13), (0, 9, 15, 17)] := vx_table (x := yL_apply) BB (hts (.codeWith yL_apply cL_apply 4 (some .int) [(0, 9, 12, 13), (0, 9, 15, 17)]) List.mem_cons_self)
  clear BB
  subst hsz
  have hK := hK3.sub (tys' := tyl cI cZ) [0, 1] rfl
  have hD := hD0.self (sz := s.heap.size)
  clear hD0
  generalize hAe : va_A (wL a cI cZ cL B R E (td) oo) s.heap.size = A at hD hZ ⊢
  have hA : ∀ q : Nat, s.heap.size ≤ q → A q := fun q h => by rw [← hAe]; exact Or.inr h
  clear hAe
  have hl := lv_entry ([.ref (a 0), .int (vx), .ref (a 26)]) (n := 4) (Nat.le_of_ble_eq_true rfl)
  rw [lg_entry_eq]
  generalize (lg_sl ([.ref (a 0), .int (vx), .ref (a 26)]) ++ List.replicate (4 - (lg_sl ([.ref (a 0), .int (vx), .ref (a 26)])).length) Slot.unset).toArray = ls at hl ⊢
  have hl : lv_has ls 4 [(0, .ref (a 0)), (1, .int (vx)), (2, .ref (a 26))] := hl
  generalize hHe : s.heap = H at hP ⊢
  have hS : va_S A s.heap H [] := by rw [← hHe]; exact va_S.rf
  clear hHe
  generalize hLe : ([] : List Loc) = locs at hS ⊢
  clear hLe
  refine lv_aload_n hx hb dL_apply_0 rfl (lv_at hl 2 rfl) ?_
  refine lv_iconst (v := 0) hx hb dL_apply_1 (by decide) ?_
  refine lv_aload_n hx hb dL_apply_2 rfl (lv_at hl 0 rfl) ?_
  refine lv_iload_n hx hb dL_apply_3 rfl (lv_at hl 1 rfl) ?_
  rcases (show aplK R vx = 0 ∨ aplK R vx = 1 ∨ aplK R vx = 2 from aplK_c).resolve_left hk with hk1 | hk2
  · -- 1
    refine zxV (ci := 3) (q0 := 0) ksCA ⟨hx, hb, hml, hown, hts⟩ (zwCA hP hD hS hA) hK hX hZ (x_X3_apply l hfl D cI cZ a H.size (B) (R) (E) (td) (q) (vx) eI (hR) (hq) (hk) (by rw [hk1]; rfl)) (cwV 1 hts gL_apply_X3_apply rfl rfl rfl (by decide +kernel) ⟨Nat.le_of_ble_eq_true rfl, Nat.le_of_ble_eq_true rfl⟩) rfl rfl (by decide) (zkCA _) rfl hl.1 rfl (Nat.le_of_ble_eq_true rfl) dL_apply_4 ⟨Nat.le_of_ble_eq_true rfl, Nat.le_of_ble_eq_true rfl⟩ (fun ce q9 H locs hP hD hS hce hcv hcl => ?_)
    refine vx_catch (E := eI) (name := eI) hown [] ⟨0, 9, 12, 13⟩ [⟨0, 9, 15, 17⟩] htab (fun z hz => nomatch hz) rfl (by decide) (hts (.classLink RL 13 "java/lang/IndexOutOfBoundsException") (by decide +kernel)) (va_Nw.use rfl (hX.1.2.1)) hce hcv hcl ?_
    refine lv_astore_n (lv' := [(3, .ref (q9)), (0, .ref (a 0)), (1, .int (vx)), (2, .ref (a 26))]) hx hb dL_apply_12 rfl hl (by decide) rfl (fun ls hl => ?_)
    refine lv_iconst (v := 1) hx hb dL_apply_13 (by decide) ?_
    exact W.iret (v := 1) hx hb hr (fun t ht hW => ⟨⟨1, (), rfl, (by rw [hk1]; rfl), by rw [ht]; exact hP, va_K.moved hW.alike hK3, hD⟩, hS.F ht⟩) hS.2.2 dL_apply_14
  · -- 2
    refine zxV (ci := 3) (q0 := 0) ksCA ⟨hx, hb, hml, hown, hts⟩ (zwCA hP hD hS hA) hK hX hZ (x_X3_apply l hfl D cI cZ a H.size (B) (R) (E) (td) (q) (vx) eS (hR) (hq) (hk) (by rw [hk2]; rfl)) (cwV 1 hts gL_apply_X3_apply rfl rfl rfl (by decide +kernel) ⟨Nat.le_of_ble_eq_true rfl, Nat.le_of_ble_eq_true rfl⟩) rfl rfl (by decide) (zkCA _) rfl hl.1 rfl (Nat.le_of_ble_eq_true rfl) dL_apply_4 ⟨Nat.le_of_ble_eq_true rfl, Nat.le_of_ble_eq_true rfl⟩ (fun ce q9 H locs hP hD hS hce hcv hcl => ?_)
    refine vx_catch (E := eS) (name := eS) hown [⟨0, 9, 12, 13⟩] ⟨0, 9, 15, 17⟩ [] htab (List.forall_mem_cons.mpr ⟨Or.inr ⟨by decide, eI, hts (.classLink RL 13 "java/lang/IndexOutOfBoundsException") (by decide +kernel), hX.2.2.2.1⟩, fun z hz => nomatch hz⟩) rfl (by decide) (hts (.classLink RL 17 "java/lang/IllegalStateException") (by decide +kernel)) (va_Nw.use rfl (hX.1.2.2.2)) hce hcv hcl ?_
    refine lv_astore_n (lv' := [(3, .ref (q9)), (0, .ref (a 0)), (1, .int (vx)), (2, .ref (a 26))]) hx hb dL_apply_15 rfl hl (by decide) rfl (fun ls hl => ?_)
    refine lv_iconst (v := 2) hx hb dL_apply_16 (by decide) ?_
    exact W.iret (v := 2) hx hb hr (fun t ht hW => ⟨⟨2, (), rfl, (by rw [hk2]; rfl), by rw [ht]; exact hP, va_K.moved hW.alike hK3, hD⟩, hS.F ht⟩) hS.2.2 dL_apply_17
set_option maxHeartbeats 4000000 in
set_option maxRecDepth 100000 in
theorem c_L_payBack_0 (l : Launch) (D : va_G) (cI cZ cL : ClassId) (a : Nat → Nat) (sz : Nat) (B : Nat → Nat → Int32) (R : Nat → Nat → Int32) (E : Nat → Nat → Int32) (td : Int32) (q : Nat) (rc : Nat) (oo : Nat → Int64) (hR : R 8 0 = nI q) (hq : q ≤ 30) (hrq : rc < q) (h5 : R 5 rc = 0) (h3 : ¬ R 3 rc = 0) : Met l yL_payBack wsL_payBack ({ frames := 2, cells := 0, slots := 0, locals := 43 } : Room) (va_Pc [.ref (a 0), .int (nI (rc)), .ref (a 26)] (PreL D cI cZ cL (wL a cI cZ cL B R E (td) oo) sz)) (va_Qi (fun (r : Int32) (u : Unit) => r = 0) (fun (u : Unit) => PostL D cI cZ cL (va_A (wL a cI cZ cL B R E (td) oo) sz) (wL a cI cZ cL B (pbR R rc) E (td) (vp_updL oo 0 (R 3 rc).toInt64))) (va_A (wL a cI cZ cL B R E (td) oo) sz)) 0 0 (va_A (wL a cI cZ cL B R E (td) oo) sz) := by
  refine va_MetW (cc := cL_payBack) (maxL := 4) (ret := (some .int)) (hh := [(0, 9, 12, 13), (0, 9, 15, 17)]) (by decide) rfl ?_
  intro p e s m args below meth c s₁ BB hml hv
  obtain ⟨rfl, ⟨hsz, hP, hK3, hD0⟩, hX, hZ⟩ := hv
  have hx := BB.exec
  have hb := BB.bytes
  have hr := BB.returns
  have hts := atoms_spec (ws := wsL_payBack) BB.pre
  have hown : s.vm.findClass RL = some m.cls := findClass_of_methodNamed BB.named
  have hlocks := BB.notSynchronized
  clear BB
  subst hsz
  have hK := hK3.sub (tys' := tyl cI cZ) [0, 1] rfl
  have hD := hD0.self (sz := s.heap.size)
  clear hD0
  generalize hAe : va_A (wL a cI cZ cL B R E (td) oo) s.heap.size = A at hD hZ ⊢
  have hA : ∀ q : Nat, s.heap.size ≤ q → A q := fun q h => by rw [← hAe]; exact Or.inr h
  clear hAe
  have hl := lv_entry ([.ref (a 0), .int (nI (rc)), .ref (a 26)]) (n := 4) (Nat.le_of_ble_eq_true rfl)
  rw [lg_entry_eq]
  generalize (lg_sl ([.ref (a 0), .int (nI (rc)), .ref (a 26)]) ++ List.replicate (4 - (lg_sl ([.ref (a 0), .int (nI (rc)), .ref (a 26)])).length) Slot.unset).toArray = ls at hl ⊢
  have hl : lv_has ls 4 [(0, .ref (a 0)), (1, .int (nI (rc))), (2, .ref (a 26))] := hl
  generalize hHe : s.heap = H at hP ⊢
  have hS : va_S A s.heap H [] := by rw [← hHe]; exact va_S.rf
  clear hHe
  generalize hLe : ([] : List Loc) = locs at hS ⊢
  clear hLe
  refine lv_aload_n hx hb dL_payBack_0 rfl (lv_at hl 2 rfl) ?_
  refine lv_iconst (v := 0) hx hb dL_payBack_1 (by decide) ?_
  refine lv_aload_n hx hb dL_payBack_2 rfl (lv_at hl 0 rfl) ?_
  refine lv_iload_n hx hb dL_payBack_3 rfl (lv_at hl 1 rfl) ?_
  refine zcVi (ci := 3) (q0 := 0) (wf := (fun (u : Nat → Nat → Int32) => (wL a cI cZ cL B u E (td) oo))) ksCA ⟨hx, hb, hml, hown, hts⟩ (zwCA hP hD hS hA) hK (c_X3_payBack l D cI cZ a H.size (B) (R) (E) (td) (q) (rc) (by first | assumption | omega) (by first | assumption | omega) (by first | assumption | omega) (by first | assumption | omega) (by first | assumption | omega)) (cwV 1 hts gL_payBack_X3_payBack rfl rfl rfl (by decide +kernel) ⟨Nat.le_of_ble_eq_true rfl, Nat.le_of_ble_eq_true rfl⟩) rfl rfl (by decide) (fun _ => zkCA _) rfl hl.1 rfl (Nat.le_of_ble_eq_true rfl) dL_payBack_4 ⟨Nat.le_of_ble_eq_true rfl, Nat.le_of_ble_eq_true rfl⟩ (fun r4 u H locs hw hP hD hS => ?_)
  obtain ⟨rfl, rfl⟩ := hw
  have hP : va_P D vwCl (wL a cI cZ cL B (pbR (R) (rc)) E (td) oo) H := hP
  have hD : va_D A (wL a cI cZ cL B (pbR (R) (rc)) E (td) oo) := hD
  refine lv_i2l (v := ((R) 3 (rc)).toInt64) hx hb dL_payBack_7 rfl ?_
  refine zlst hx hb hK3 hP hD hS 26 rfl (wL a cI cZ cL B (pbR R rc) E (td) (vp_updL oo 0 (R 3 rc).toInt64)) rfl dL_payBack_8 (fun H locs hP hD hS => ?_)
  refine lv_goto (tgt := 18) hx hb dL_payBack_9 (by decide) ?_
  refine lv_iconst (v := 0) hx hb dL_payBack_18 (by decide) ?_
  exact W.iret (v := 0) hx hb hr (fun t ht hW => ⟨⟨0, (), rfl, rfl, by rw [ht]; exact hP, va_K.moved hW.alike hK3, hD⟩, hS.F ht⟩) hS.2.2 dL_payBack_19
set_option maxHeartbeats 4000000 in
set_option maxRecDepth 100000 in
theorem c_L_payBack_k (l : Launch) (hfl : l.stackTraces = false) (D : va_G) (cI cZ cL : ClassId) (a : Nat → Nat) (sz : Nat) (B : Nat → Nat → Int32) (R : Nat → Nat → Int32) (E : Nat → Nat → Int32) (td : Int32) (q : Nat) (vx : Int32) (oo : Nat → Int64) (hR : R 8 0 = nI q) (hq : q ≤ 30) (hk : ¬ pbkK R vx = 0) : Met l yL_payBack wsL_payBack ({ frames := 8, cells := 1, slots := 6, locals := 132 } : Room) (va_Pc [.ref (a 0), .int (vx), .ref (a 26)] (PreL D cI cZ cL (wL a cI cZ cL B R E (td) oo) sz)) (va_Qi (fun (r : Int32) (u : Unit) => r = nI (pbkK R vx)) (fun (u : Unit) => PostL D cI cZ cL (va_A (wL a cI cZ cL B R E (td) oo) sz) (wL a cI cZ cL B R E (td) oo)) (va_A (wL a cI cZ cL B R E (td) oo) sz)) 1 6 (va_A (wL a cI cZ cL B R E (td) oo) sz) := by
  refine va_MetW (cc := cL_payBack) (maxL := 4) (ret := (some .int)) (hh := [(0, 9, 12, 13), (0, 9, 15, 17)]) (by decide) rfl ?_
  intro p e s m args below meth c s₁ BB hml hv
  obtain ⟨rfl, ⟨hsz, hP, hK3, hD0⟩, hX, hZ⟩ := hv
  have hx := BB.exec
  have hb := BB.bytes
  have hr := BB.returns
  have hts := atoms_spec (ws := wsL_payBack) BB.pre
  have hown : s.vm.findClass RL = some m.cls := findClass_of_methodNamed BB.named
  have hlocks := BB.notSynchronized
  have htab : c.exceptionTable.toList = tableOf [(0, 9, 12, 13), (0, 9, 15, 17)] := vx_table (x := yL_payBack) BB (hts (.codeWith yL_payBack cL_payBack 4 (some .int) [(0, 9, 12, 13), (0, 9, 15, 17)]) List.mem_cons_self)
  clear BB
  subst hsz
  have hK := hK3.sub (tys' := tyl cI cZ) [0, 1] rfl
  have hD := hD0.self (sz := s.heap.size)
  clear hD0
  generalize hAe : va_A (wL a cI cZ cL B R E (td) oo) s.heap.size = A at hD hZ ⊢
  have hA : ∀ q : Nat, s.heap.size ≤ q → A q := fun q h => by rw [← hAe]; exact Or.inr h
  clear hAe
  have hl := lv_entry ([.ref (a 0), .int (vx), .ref (a 26)]) (n := 4) (Nat.le_of_ble_eq_true rfl)
  rw [lg_entry_eq]
  generalize (lg_sl ([.ref (a 0), .int (vx), .ref (a 26)]) ++ List.replicate (4 - (lg_sl ([.ref (a 0), .int (vx), .ref (a 26)])).length) Slot.unset).toArray = ls at hl ⊢
  have hl : lv_has ls 4 [(0, .ref (a 0)), (1, .int (vx)), (2, .ref (a 26))] := hl
  generalize hHe : s.heap = H at hP ⊢
  have hS : va_S A s.heap H [] := by rw [← hHe]; exact va_S.rf
  clear hHe
  generalize hLe : ([] : List Loc) = locs at hS ⊢
  clear hLe
  refine lv_aload_n hx hb dL_payBack_0 rfl (lv_at hl 2 rfl) ?_
  refine lv_iconst (v := 0) hx hb dL_payBack_1 (by decide) ?_
  refine lv_aload_n hx hb dL_payBack_2 rfl (lv_at hl 0 rfl) ?_
  refine lv_iload_n hx hb dL_payBack_3 rfl (lv_at hl 1 rfl) ?_
  rcases (show pbkK R vx = 0 ∨ pbkK R vx = 1 ∨ pbkK R vx = 2 from pbkK_c).resolve_left hk with hk1 | hk2
  · -- 1
    refine zxV (ci := 3) (q0 := 0) ksCA ⟨hx, hb, hml, hown, hts⟩ (zwCA hP hD hS hA) hK hX hZ (x_X3_payBack l hfl D cI cZ a H.size (B) (R) (E) (td) (q) (vx) eI (hR) (hq) (hk) (by rw [hk1]; rfl)) (cwV 1 hts gL_payBack_X3_payBack rfl rfl rfl (by decide +kernel) ⟨Nat.le_of_ble_eq_true rfl, Nat.le_of_ble_eq_true rfl⟩) rfl rfl (by decide) (zkCA _) rfl hl.1 rfl (Nat.le_of_ble_eq_true rfl) dL_payBack_4 ⟨Nat.le_of_ble_eq_true rfl, Nat.le_of_ble_eq_true rfl⟩ (fun ce q9 H locs hP hD hS hce hcv hcl => ?_)
    refine vx_catch (E := eI) (name := eI) hown [] ⟨0, 9, 12, 13⟩ [⟨0, 9, 15, 17⟩] htab (fun z hz => nomatch hz) rfl (by decide) (hts (.classLink RL 13 "java/lang/IndexOutOfBoundsException") (by decide +kernel)) (va_Nw.use rfl (hX.1.2.1)) hce hcv hcl ?_
    refine lv_astore_n (lv' := [(3, .ref (q9)), (0, .ref (a 0)), (1, .int (vx)), (2, .ref (a 26))]) hx hb dL_payBack_12 rfl hl (by decide) rfl (fun ls hl => ?_)
    refine lv_iconst (v := 1) hx hb dL_payBack_13 (by decide) ?_
    exact W.iret (v := 1) hx hb hr (fun t ht hW => ⟨⟨1, (), rfl, (by rw [hk1]; rfl), by rw [ht]; exact hP, va_K.moved hW.alike hK3, hD⟩, hS.F ht⟩) hS.2.2 dL_payBack_14
  · -- 2
    refine zxV (ci := 3) (q0 := 0) ksCA ⟨hx, hb, hml, hown, hts⟩ (zwCA hP hD hS hA) hK hX hZ (x_X3_payBack l hfl D cI cZ a H.size (B) (R) (E) (td) (q) (vx) eS (hR) (hq) (hk) (by rw [hk2]; rfl)) (cwV 1 hts gL_payBack_X3_payBack rfl rfl rfl (by decide +kernel) ⟨Nat.le_of_ble_eq_true rfl, Nat.le_of_ble_eq_true rfl⟩) rfl rfl (by decide) (zkCA _) rfl hl.1 rfl (Nat.le_of_ble_eq_true rfl) dL_payBack_4 ⟨Nat.le_of_ble_eq_true rfl, Nat.le_of_ble_eq_true rfl⟩ (fun ce q9 H locs hP hD hS hce hcv hcl => ?_)
    refine vx_catch (E := eS) (name := eS) hown [⟨0, 9, 12, 13⟩] ⟨0, 9, 15, 17⟩ [] htab (List.forall_mem_cons.mpr ⟨Or.inr ⟨by decide, eI, hts (.classLink RL 13 "java/lang/IndexOutOfBoundsException") (by decide +kernel), hX.2.2.2.1⟩, fun z hz => nomatch hz⟩) rfl (by decide) (hts (.classLink RL 17 "java/lang/IllegalStateException") (by decide +kernel)) (va_Nw.use rfl (hX.1.2.2.2)) hce hcv hcl ?_
    refine lv_astore_n (lv' := [(3, .ref (q9)), (0, .ref (a 0)), (1, .int (vx)), (2, .ref (a 26))]) hx hb dL_payBack_15 rfl hl (by decide) rfl (fun ls hl => ?_)
    refine lv_iconst (v := 2) hx hb dL_payBack_16 (by decide) ?_
    exact W.iret (v := 2) hx hb hr (fun t ht hW => ⟨⟨2, (), rfl, (by rw [hk2]; rfl), by rw [ht]; exact hP, va_K.moved hW.alike hK3, hD⟩, hS.F ht⟩) hS.2.2 dL_payBack_17
set_option maxHeartbeats 4000000 in
set_option maxRecDepth 100000 in
theorem c_L_bounce_0 (l : Launch) (D : va_G) (cI cZ cL : ClassId) (a : Nat → Nat) (sz : Nat) (B : Nat → Nat → Int32) (R : Nat → Nat → Int32) (E : Nat → Nat → Int32) (td : Int32) (n : Nat) (q : Nat) (rc : Nat) (oo : Nat → Int64) (hB : B 11 0 = nI n) (hn : n ≤ 40) (hR : R 8 0 = nI q) (hq : q ≤ 30) (hrq : rc < q) (h5 : R 5 rc = 0) (h4 : R 4 rc ≤ 0) (hz : ∀ j, R 7 j = 0 ∨ R 7 j = 1) : Met l yL_bounce wsL_bounce ({ frames := 3, cells := 0, slots := 0, locals := 69 } : Room) (va_Pc [.ref (a 0), .int (nI (rc)), .ref (a 26)] (PreL D cI cZ cL (wL a cI cZ cL B R E (td) oo) sz)) (va_Qi (fun (r : Int32) (u : Unit) => r = 0) (fun (u : Unit) => PostL D cI cZ cL (va_A (wL a cI cZ cL B R E (td) oo) sz) (wL a cI cZ cL ((((bncL rc n 0 0 B R).2.1, mkB (bncL rc n 0 0 B R).2.2 rc)).1) ((((bncL rc n 0 0 B R).2.1, mkB (bncL rc n 0 0 B R).2.2 rc)).2) E (td) (vp_updL oo 0 (nI (bncL rc n 0 0 B R).1).toInt64))) (va_A (wL a cI cZ cL B R E (td) oo) sz)) 0 0 (va_A (wL a cI cZ cL B R E (td) oo) sz) := by
  refine va_MetW (cc := cL_bounce) (maxL := 4) (ret := (some .int)) (hh := [(0, 9, 12, 13), (0, 9, 15, 17)]) (by decide) rfl ?_
  intro p e s m args below meth c s₁ BB hml hv
  obtain ⟨rfl, ⟨hsz, hP, hK3, hD0⟩, hX, hZ⟩ := hv
  have hx := BB.exec
  have hb := BB.bytes
  have hr := BB.returns
  have hts := atoms_spec (ws := wsL_bounce) BB.pre
  have hown : s.vm.findClass RL = some m.cls := findClass_of_methodNamed BB.named
  have hlocks := BB.notSynchronized
  clear BB
  subst hsz
  have hK := hK3.sub (tys' := tyl cI cZ) [0, 1] rfl
  have hD := hD0.self (sz := s.heap.size)
  clear hD0
  generalize hAe : va_A (wL a cI cZ cL B R E (td) oo) s.heap.size = A at hD hZ ⊢
  have hA : ∀ q : Nat, s.heap.size ≤ q → A q := fun q h => by rw [← hAe]; exact Or.inr h
  clear hAe
  have hl := lv_entry ([.ref (a 0), .int (nI (rc)), .ref (a 26)]) (n := 4) (Nat.le_of_ble_eq_true rfl)
  rw [lg_entry_eq]
  generalize (lg_sl ([.ref (a 0), .int (nI (rc)), .ref (a 26)]) ++ List.replicate (4 - (lg_sl ([.ref (a 0), .int (nI (rc)), .ref (a 26)])).length) Slot.unset).toArray = ls at hl ⊢
  have hl : lv_has ls 4 [(0, .ref (a 0)), (1, .int (nI (rc))), (2, .ref (a 26))] := hl
  generalize hHe : s.heap = H at hP ⊢
  have hS : va_S A s.heap H [] := by rw [← hHe]; exact va_S.rf
  clear hHe
  generalize hLe : ([] : List Loc) = locs at hS ⊢
  clear hLe
  refine lv_aload_n hx hb dL_bounce_0 rfl (lv_at hl 2 rfl) ?_
  refine lv_iconst (v := 0) hx hb dL_bounce_1 (by decide) ?_
  refine lv_aload_n hx hb dL_bounce_2 rfl (lv_at hl 0 rfl) ?_
  refine lv_iload_n hx hb dL_bounce_3 rfl (lv_at hl 1 rfl) ?_
  refine zcVi (ci := 3) (q0 := 0) (wf := (fun (u : (Nat → Nat → Int32) × (Nat → Nat → Int32)) => (wL a cI cZ cL (u.1) (u.2) E (td) oo))) ksCA ⟨hx, hb, hml, hown, hts⟩ (zwCA hP hD hS hA) hK (c_X3_bounce l D cI cZ a H.size (B) (R) (E) (td) (n) (q) (rc) (by first | assumption | omega) (by first | assumption | omega) (by first | assumption | omega) (by first | assumption | omega) (by first | assumption | omega) (by first | assumption | omega) (by first | assumption | omega) (by first | assumption | omega)) (cwV 1 hts gL_bounce_X3_bounce rfl rfl rfl (by decide +kernel) ⟨Nat.le_of_ble_eq_true rfl, Nat.le_of_ble_eq_true rfl⟩) rfl rfl (by decide) (fun _ => zkCA _) rfl hl.1 rfl (Nat.le_of_ble_eq_true rfl) dL_bounce_4 ⟨Nat.le_of_ble_eq_true rfl, Nat.le_of_ble_eq_true rfl⟩ (fun r4 u H locs hw hP hD hS => ?_)
  obtain ⟨rfl, rfl⟩ := hw
  have hP : va_P D vwCl (wL a cI cZ cL ((((bncL (rc) n 0 0 (B) (R)).2.1, mkB (bncL (rc) n 0 0 (B) (R)).2.2 (rc))).1) ((((bncL (rc) n 0 0 (B) (R)).2.1, mkB (bncL (rc) n 0 0 (B) (R)).2.2 (rc))).2) E (td) oo) H := hP
  have hD : va_D A (wL a cI cZ cL ((((bncL (rc) n 0 0 (B) (R)).2.1, mkB (bncL (rc) n 0 0 (B) (R)).2.2 (rc))).1) ((((bncL (rc) n 0 0 (B) (R)).2.1, mkB (bncL (rc) n 0 0 (B) (R)).2.2 (rc))).2) E (td) oo) := hD
  refine lv_i2l (v := (nI (bncL (rc) n 0 0 (B) (R)).1).toInt64) hx hb dL_bounce_7 rfl ?_
  refine zlst hx hb hK3 hP hD hS 26 rfl (wL a cI cZ cL ((((bncL rc n 0 0 B R).2.1, mkB (bncL rc n 0 0 B R).2.2 rc)).1) ((((bncL rc n 0 0 B R).2.1, mkB (bncL rc n 0 0 B R).2.2 rc)).2) E (td) (vp_updL oo 0 (nI (bncL rc n 0 0 B R).1).toInt64)) rfl dL_bounce_8 (fun H locs hP hD hS => ?_)
  refine lv_goto (tgt := 18) hx hb dL_bounce_9 (by decide) ?_
  refine lv_iconst (v := 0) hx hb dL_bounce_18 (by decide) ?_
  exact W.iret (v := 0) hx hb hr (fun t ht hW => ⟨⟨0, (), rfl, rfl, by rw [ht]; exact hP, va_K.moved hW.alike hK3, hD⟩, hS.F ht⟩) hS.2.2 dL_bounce_19
set_option maxHeartbeats 4000000 in
set_option maxRecDepth 100000 in
theorem c_L_bounce_k (l : Launch) (hfl : l.stackTraces = false) (D : va_G) (cI cZ cL : ClassId) (a : Nat → Nat) (sz : Nat) (B : Nat → Nat → Int32) (R : Nat → Nat → Int32) (E : Nat → Nat → Int32) (td : Int32) (q : Nat) (vx : Int32) (oo : Nat → Int64) (hR : R 8 0 = nI q) (hq : q ≤ 30) (hk : ¬ bncK R vx = 0) : Met l yL_bounce wsL_bounce ({ frames := 8, cells := 1, slots := 6, locals := 134 } : Room) (va_Pc [.ref (a 0), .int (vx), .ref (a 26)] (PreL D cI cZ cL (wL a cI cZ cL B R E (td) oo) sz)) (va_Qi (fun (r : Int32) (u : Unit) => r = nI (bncK R vx)) (fun (u : Unit) => PostL D cI cZ cL (va_A (wL a cI cZ cL B R E (td) oo) sz) (wL a cI cZ cL B R E (td) oo)) (va_A (wL a cI cZ cL B R E (td) oo) sz)) 1 6 (va_A (wL a cI cZ cL B R E (td) oo) sz) := by
  refine va_MetW (cc := cL_bounce) (maxL := 4) (ret := (some .int)) (hh := [(0, 9, 12, 13), (0, 9, 15, 17)]) (by decide) rfl ?_
  intro p e s m args below meth c s₁ BB hml hv
  obtain ⟨rfl, ⟨hsz, hP, hK3, hD0⟩, hX, hZ⟩ := hv
  have hx := BB.exec
  have hb := BB.bytes
  have hr := BB.returns
  have hts := atoms_spec (ws := wsL_bounce) BB.pre
  have hown : s.vm.findClass RL = some m.cls := findClass_of_methodNamed BB.named
  have hlocks := BB.notSynchronized
  have htab : c.exceptionTable.toList = tableOf [(0, 9, 12, 13), (0, 9, 15, 17)] := vx_table (x := yL_bounce) BB (hts (.codeWith yL_bounce cL_bounce 4 (some .int) [(0, 9, 12, 13), (0, 9, 15, 17)]) List.mem_cons_self)
  clear BB
  subst hsz
  have hK := hK3.sub (tys' := tyl cI cZ) [0, 1] rfl
  have hD := hD0.self (sz := s.heap.size)
  clear hD0
  generalize hAe : va_A (wL a cI cZ cL B R E (td) oo) s.heap.size = A at hD hZ ⊢
  have hA : ∀ q : Nat, s.heap.size ≤ q → A q := fun q h => by rw [← hAe]; exact Or.inr h
  clear hAe
  have hl := lv_entry ([.ref (a 0), .int (vx), .ref (a 26)]) (n := 4) (Nat.le_of_ble_eq_true rfl)
  rw [lg_entry_eq]
  generalize (lg_sl ([.ref (a 0), .int (vx), .ref (a 26)]) ++ List.replicate (4 - (lg_sl ([.ref (a 0), .int (vx), .ref (a 26)])).length) Slot.unset).toArray = ls at hl ⊢
  have hl : lv_has ls 4 [(0, .ref (a 0)), (1, .int (vx)), (2, .ref (a 26))] := hl
  generalize hHe : s.heap = H at hP ⊢
  have hS : va_S A s.heap H [] := by rw [← hHe]; exact va_S.rf
  clear hHe
  generalize hLe : ([] : List Loc) = locs at hS ⊢
  clear hLe
  refine lv_aload_n hx hb dL_bounce_0 rfl (lv_at hl 2 rfl) ?_
  refine lv_iconst (v := 0) hx hb dL_bounce_1 (by decide) ?_
  refine lv_aload_n hx hb dL_bounce_2 rfl (lv_at hl 0 rfl) ?_
  refine lv_iload_n hx hb dL_bounce_3 rfl (lv_at hl 1 rfl) ?_
  rcases (show bncK R vx = 0 ∨ bncK R vx = 1 ∨ bncK R vx = 2 from bncK_c).resolve_left hk with hk1 | hk2
  · -- 1
    refine zxV (ci := 3) (q0 := 0) ksCA ⟨hx, hb, hml, hown, hts⟩ (zwCA hP hD hS hA) hK hX hZ (x_X3_bounce l hfl D cI cZ a H.size (B) (R) (E) (td) (q) (vx) eI (hR) (hq) (hk) (by rw [hk1]; rfl)) (cwV 1 hts gL_bounce_X3_bounce rfl rfl rfl (by decide +kernel) ⟨Nat.le_of_ble_eq_true rfl, Nat.le_of_ble_eq_true rfl⟩) rfl rfl (by decide) (zkCA _) rfl hl.1 rfl (Nat.le_of_ble_eq_true rfl) dL_bounce_4 ⟨Nat.le_of_ble_eq_true rfl, Nat.le_of_ble_eq_true rfl⟩ (fun ce q9 H locs hP hD hS hce hcv hcl => ?_)
    refine vx_catch (E := eI) (name := eI) hown [] ⟨0, 9, 12, 13⟩ [⟨0, 9, 15, 17⟩] htab (fun z hz => nomatch hz) rfl (by decide) (hts (.classLink RL 13 "java/lang/IndexOutOfBoundsException") (by decide +kernel)) (va_Nw.use rfl (hX.1.2.1)) hce hcv hcl ?_
    refine lv_astore_n (lv' := [(3, .ref (q9)), (0, .ref (a 0)), (1, .int (vx)), (2, .ref (a 26))]) hx hb dL_bounce_12 rfl hl (by decide) rfl (fun ls hl => ?_)
    refine lv_iconst (v := 1) hx hb dL_bounce_13 (by decide) ?_
    exact W.iret (v := 1) hx hb hr (fun t ht hW => ⟨⟨1, (), rfl, (by rw [hk1]; rfl), by rw [ht]; exact hP, va_K.moved hW.alike hK3, hD⟩, hS.F ht⟩) hS.2.2 dL_bounce_14
  · -- 2
    refine zxV (ci := 3) (q0 := 0) ksCA ⟨hx, hb, hml, hown, hts⟩ (zwCA hP hD hS hA) hK hX hZ (x_X3_bounce l hfl D cI cZ a H.size (B) (R) (E) (td) (q) (vx) eS (hR) (hq) (hk) (by rw [hk2]; rfl)) (cwV 1 hts gL_bounce_X3_bounce rfl rfl rfl (by decide +kernel) ⟨Nat.le_of_ble_eq_true rfl, Nat.le_of_ble_eq_true rfl⟩) rfl rfl (by decide) (zkCA _) rfl hl.1 rfl (Nat.le_of_ble_eq_true rfl) dL_bounce_4 ⟨Nat.le_of_ble_eq_true rfl, Nat.le_of_ble_eq_true rfl⟩ (fun ce q9 H locs hP hD hS hce hcv hcl => ?_)
    refine vx_catch (E := eS) (name := eS) hown [⟨0, 9, 12, 13⟩] ⟨0, 9, 15, 17⟩ [] htab (List.forall_mem_cons.mpr ⟨Or.inr ⟨by decide, eI, hts (.classLink RL 13 "java/lang/IndexOutOfBoundsException") (by decide +kernel), hX.2.2.2.1⟩, fun z hz => nomatch hz⟩) rfl (by decide) (hts (.classLink RL 17 "java/lang/IllegalStateException") (by decide +kernel)) (va_Nw.use rfl (hX.1.2.2.2)) hce hcv hcl ?_
    refine lv_astore_n (lv' := [(3, .ref (q9)), (0, .ref (a 0)), (1, .int (vx)), (2, .ref (a 26))]) hx hb dL_bounce_15 rfl hl (by decide) rfl (fun ls hl => ?_)
    refine lv_iconst (v := 2) hx hb dL_bounce_16 (by decide) ?_
    exact W.iret (v := 2) hx hb hr (fun t ht hW => ⟨⟨2, (), rfl, (by rw [hk2]; rfl), by rw [ht]; exact hP, va_K.moved hW.alike hK3, hD⟩, hS.F ht⟩) hS.2.2 dL_bounce_17
set_option maxHeartbeats 4000000 in
set_option maxRecDepth 100000 in
theorem c_L_settle_0 (l : Launch) (D : va_G) (cI cZ cL : ClassId) (a : Nat → Nat) (sz : Nat) (B : Nat → Nat → Int32) (R : Nat → Nat → Int32) (E : Nat → Nat → Int32) (td : Int32) (n : Nat) (i : Nat) (zz : Int32) (oo : Nat → Int64) (hB : B 11 0 = nI n) (hn : n ≤ 40) (hbn : i < n) (h8 : ¬ B 8 i = 0) : Met l yL_settle wsL_settle ({ frames := 2, cells := 0, slots := 0, locals := 45 } : Room) (va_Pc [.ref (a 0), .int (nI (i)), .int (zz), .ref (a 26)] (PreL D cI cZ cL (wL a cI cZ cL B R E (td) oo) sz)) (va_Qi (fun (r : Int32) (u : Unit) => r = 0) (fun (u : Unit) => PostL D cI cZ cL (va_A (wL a cI cZ cL B R E (td) oo) sz) (wL a cI cZ cL (edD B i zz) R E (td) (vp_updL oo 0 (B 8 i).toInt64))) (va_A (wL a cI cZ cL B R E (td) oo) sz)) 0 0 (va_A (wL a cI cZ cL B R E (td) oo) sz) := by
  refine va_MetW (cc := cL_settle) (maxL := 5) (ret := (some .int)) (hh := [(0, 10, 13, 13), (0, 10, 17, 17)]) (by decide) rfl ?_
  intro p e s m args below meth c s₁ BB hml hv
  obtain ⟨rfl, ⟨hsz, hP, hK3, hD0⟩, hX, hZ⟩ := hv
  have hx := BB.exec
  have hb := BB.bytes
  have hr := BB.returns
  have hts := atoms_spec (ws := wsL_settle) BB.pre
  have hown : s.vm.findClass RL = some m.cls := findClass_of_methodNamed BB.named
  have hlocks := BB.notSynchronized
  clear BB
  subst hsz
  have hK := hK3.sub (tys' := tyl cI cZ) [0, 1] rfl
  have hD := hD0.self (sz := s.heap.size)
  clear hD0
  generalize hAe : va_A (wL a cI cZ cL B R E (td) oo) s.heap.size = A at hD hZ ⊢
  have hA : ∀ q : Nat, s.heap.size ≤ q → A q := fun q h => by rw [← hAe]; exact Or.inr h
  clear hAe
  have hl := lv_entry ([.ref (a 0), .int (nI (i)), .int (zz), .ref (a 26)]) (n := 5) (Nat.le_of_ble_eq_true rfl)
  rw [lg_entry_eq]
  generalize (lg_sl ([.ref (a 0), .int (nI (i)), .int (zz), .ref (a 26)]) ++ List.replicate (5 - (lg_sl ([.ref (a 0), .int (nI (i)), .int (zz), .ref (a 26)])).length) Slot.unset).toArray = ls at hl ⊢
  have hl : lv_has ls 5 [(0, .ref (a 0)), (1, .int (nI (i))), (2, .int (zz)), (3, .ref (a 26))] := hl
  generalize hHe : s.heap = H at hP ⊢
  have hS : va_S A s.heap H [] := by rw [← hHe]; exact va_S.rf
  clear hHe
  generalize hLe : ([] : List Loc) = locs at hS ⊢
  clear hLe
  refine lv_aload_n hx hb dL_settle_0 rfl (lv_at hl 3 rfl) ?_
  refine lv_iconst (v := 0) hx hb dL_settle_1 (by decide) ?_
  refine lv_aload_n hx hb dL_settle_2 rfl (lv_at hl 0 rfl) ?_
  refine lv_iload_n hx hb dL_settle_3 rfl (lv_at hl 1 rfl) ?_
  refine lv_iload_n hx hb dL_settle_4 rfl (lv_at hl 2 rfl) ?_
  refine zcVi (ci := 3) (q0 := 0) (wf := (fun (u : Nat → Nat → Int32) => (wL a cI cZ cL u R E (td) oo))) ksCA ⟨hx, hb, hml, hown, hts⟩ (zwCA hP hD hS hA) hK (c_X3_settle l D cI cZ a H.size (B) (R) (E) (td) (n) (i) (zz) (by first | assumption | omega) (by first | assumption | omega) (by first | assumption | omega) (by first | assumption | omega)) (cwV 2 hts gL_settle_X3_settle rfl rfl rfl (by decide +kernel) ⟨Nat.le_of_ble_eq_true rfl, Nat.le_of_ble_eq_true rfl⟩) rfl rfl (by decide) (fun _ => zkCA _) rfl hl.1 rfl (Nat.le_of_ble_eq_true rfl) dL_settle_5 ⟨Nat.le_of_ble_eq_true rfl, Nat.le_of_ble_eq_true rfl⟩ (fun r5 u H locs hw hP hD hS => ?_)
  obtain ⟨rfl, rfl⟩ := hw
  have hP : va_P D vwCl (wL a cI cZ cL (edD (B) (i) (zz)) R E (td) oo) H := hP
  have hD : va_D A (wL a cI cZ cL (edD (B) (i) (zz)) R E (td) oo) := hD
  refine lv_i2l (v := ((B) 8 (i)).toInt64) hx hb dL_settle_8 rfl ?_
  refine zlst hx hb hK3 hP hD hS 26 rfl (wL a cI cZ cL (edD B i zz) R E (td) (vp_updL oo 0 (B 8 i).toInt64)) rfl dL_settle_9 (fun H locs hP hD hS => ?_)
  refine lv_goto (tgt := 21) hx hb dL_settle_10 (by decide) ?_
  refine lv_iconst (v := 0) hx hb dL_settle_21 (by decide) ?_
  exact W.iret (v := 0) hx hb hr (fun t ht hW => ⟨⟨0, (), rfl, rfl, by rw [ht]; exact hP, va_K.moved hW.alike hK3, hD⟩, hS.F ht⟩) hS.2.2 dL_settle_22
set_option maxHeartbeats 4000000 in
set_option maxRecDepth 100000 in
theorem c_L_settle_k (l : Launch) (hfl : l.stackTraces = false) (D : va_G) (cI cZ cL : ClassId) (a : Nat → Nat) (sz : Nat) (B : Nat → Nat → Int32) (R : Nat → Nat → Int32) (E : Nat → Nat → Int32) (td : Int32) (n : Nat) (vx : Int32) (zz : Int32) (oo : Nat → Int64) (hB : B 11 0 = nI n) (hn : n ≤ 40) (hk : ¬ stlK B vx = 0) : Met l yL_settle wsL_settle ({ frames := 8, cells := 1, slots := 6, locals := 133 } : Room) (va_Pc [.ref (a 0), .int (vx), .int (zz), .ref (a 26)] (PreL D cI cZ cL (wL a cI cZ cL B R E (td) oo) sz)) (va_Qi (fun (r : Int32) (u : Unit) => r = nI (stlK B vx)) (fun (u : Unit) => PostL D cI cZ cL (va_A (wL a cI cZ cL B R E (td) oo) sz) (wL a cI cZ cL B R E (td) oo)) (va_A (wL a cI cZ cL B R E (td) oo) sz)) 1 6 (va_A (wL a cI cZ cL B R E (td) oo) sz) := by
  refine va_MetW (cc := cL_settle) (maxL := 5) (ret := (some .int)) (hh := [(0, 10, 13, 13), (0, 10, 17, 17)]) (by decide) rfl ?_
  intro p e s m args below meth c s₁ BB hml hv
  obtain ⟨rfl, ⟨hsz, hP, hK3, hD0⟩, hX, hZ⟩ := hv
  have hx := BB.exec
  have hb := BB.bytes
  have hr := BB.returns
  have hts := atoms_spec (ws := wsL_settle) BB.pre
  have hown : s.vm.findClass RL = some m.cls := findClass_of_methodNamed BB.named
  have hlocks := BB.notSynchronized
  have htab : c.exceptionTable.toList = tableOf [(0, 10, 13, 13), (0, 10, 17, 17)] := vx_table (x := yL_settle) BB (hts (.codeWith yL_settle cL_settle 5 (some .int) [(0, 10, 13, 13), (0, 10, 17, 17)]) List.mem_cons_self)
  clear BB
  subst hsz
  have hK := hK3.sub (tys' := tyl cI cZ) [0, 1] rfl
  have hD := hD0.self (sz := s.heap.size)
  clear hD0
  generalize hAe : va_A (wL a cI cZ cL B R E (td) oo) s.heap.size = A at hD hZ ⊢
  have hA : ∀ q : Nat, s.heap.size ≤ q → A q := fun q h => by rw [← hAe]; exact Or.inr h
  clear hAe
  have hl := lv_entry ([.ref (a 0), .int (vx), .int (zz), .ref (a 26)]) (n := 5) (Nat.le_of_ble_eq_true rfl)
  rw [lg_entry_eq]
  generalize (lg_sl ([.ref (a 0), .int (vx), .int (zz), .ref (a 26)]) ++ List.replicate (5 - (lg_sl ([.ref (a 0), .int (vx), .int (zz), .ref (a 26)])).length) Slot.unset).toArray = ls at hl ⊢
  have hl : lv_has ls 5 [(0, .ref (a 0)), (1, .int (vx)), (2, .int (zz)), (3, .ref (a 26))] := hl
  generalize hHe : s.heap = H at hP ⊢
  have hS : va_S A s.heap H [] := by rw [← hHe]; exact va_S.rf
  clear hHe
  generalize hLe : ([] : List Loc) = locs at hS ⊢
  clear hLe
  refine lv_aload_n hx hb dL_settle_0 rfl (lv_at hl 3 rfl) ?_
  refine lv_iconst (v := 0) hx hb dL_settle_1 (by decide) ?_
  refine lv_aload_n hx hb dL_settle_2 rfl (lv_at hl 0 rfl) ?_
  refine lv_iload_n hx hb dL_settle_3 rfl (lv_at hl 1 rfl) ?_
  refine lv_iload_n hx hb dL_settle_4 rfl (lv_at hl 2 rfl) ?_
  rcases (show stlK B vx = 0 ∨ stlK B vx = 1 ∨ stlK B vx = 2 from stlK_c).resolve_left hk with hk1 | hk2
  · -- 1
    refine zxV (ci := 3) (q0 := 0) ksCA ⟨hx, hb, hml, hown, hts⟩ (zwCA hP hD hS hA) hK hX hZ (x_X3_settle l hfl D cI cZ a H.size (B) (R) (E) (td) (n) (vx) (zz) eI (hB) (hn) (hk) (by rw [hk1]; rfl)) (cwV 2 hts gL_settle_X3_settle rfl rfl rfl (by decide +kernel) ⟨Nat.le_of_ble_eq_true rfl, Nat.le_of_ble_eq_true rfl⟩) rfl rfl (by decide) (zkCA _) rfl hl.1 rfl (Nat.le_of_ble_eq_true rfl) dL_settle_5 ⟨Nat.le_of_ble_eq_true rfl, Nat.le_of_ble_eq_true rfl⟩ (fun ce q9 H locs hP hD hS hce hcv hcl => ?_)
    refine vx_catch (E := eI) (name := eI) hown [] ⟨0, 10, 13, 13⟩ [⟨0, 10, 17, 17⟩] htab (fun z hz => nomatch hz) rfl (by decide) (hts (.classLink RL 13 "java/lang/IndexOutOfBoundsException") (by decide +kernel)) (va_Nw.use rfl (hX.1.2.1)) hce hcv hcl ?_
    refine lv_astore (lv' := [(4, .ref (q9)), (0, .ref (a 0)), (1, .int (vx)), (2, .int (zz)), (3, .ref (a 26))]) hx hb dL_settle_13 hl (by decide) rfl (fun ls hl => ?_)
    refine lv_iconst (v := 1) hx hb dL_settle_15 (by decide) ?_
    exact W.iret (v := 1) hx hb hr (fun t ht hW => ⟨⟨1, (), rfl, (by rw [hk1]; rfl), by rw [ht]; exact hP, va_K.moved hW.alike hK3, hD⟩, hS.F ht⟩) hS.2.2 dL_settle_16
  · -- 2
    refine zxV (ci := 3) (q0 := 0) ksCA ⟨hx, hb, hml, hown, hts⟩ (zwCA hP hD hS hA) hK hX hZ (x_X3_settle l hfl D cI cZ a H.size (B) (R) (E) (td) (n) (vx) (zz) eS (hB) (hn) (hk) (by rw [hk2]; rfl)) (cwV 2 hts gL_settle_X3_settle rfl rfl rfl (by decide +kernel) ⟨Nat.le_of_ble_eq_true rfl, Nat.le_of_ble_eq_true rfl⟩) rfl rfl (by decide) (zkCA _) rfl hl.1 rfl (Nat.le_of_ble_eq_true rfl) dL_settle_5 ⟨Nat.le_of_ble_eq_true rfl, Nat.le_of_ble_eq_true rfl⟩ (fun ce q9 H locs hP hD hS hce hcv hcl => ?_)
    refine vx_catch (E := eS) (name := eS) hown [⟨0, 10, 13, 13⟩] ⟨0, 10, 17, 17⟩ [] htab (List.forall_mem_cons.mpr ⟨Or.inr ⟨by decide, eI, hts (.classLink RL 13 "java/lang/IndexOutOfBoundsException") (by decide +kernel), hX.2.2.2.1⟩, fun z hz => nomatch hz⟩) rfl (by decide) (hts (.classLink RL 17 "java/lang/IllegalStateException") (by decide +kernel)) (va_Nw.use rfl (hX.1.2.2.2)) hce hcv hcl ?_
    refine lv_astore (lv' := [(4, .ref (q9)), (0, .ref (a 0)), (1, .int (vx)), (2, .int (zz)), (3, .ref (a 26))]) hx hb dL_settle_17 hl (by decide) rfl (fun ls hl => ?_)
    refine lv_iconst (v := 2) hx hb dL_settle_19 (by decide) ?_
    exact W.iret (v := 2) hx hb hr (fun t ht hW => ⟨⟨2, (), rfl, (by rw [hk2]; rfl), by rw [ht]; exact hP, va_K.moved hW.alike hK3, hD⟩, hS.F ht⟩) hS.2.2 dL_settle_20
set_option maxHeartbeats 4000000 in
set_option maxRecDepth 100000 in
theorem c_L_advance_0 (l : Launch) (D : va_G) (cI cZ cL : ClassId) (a : Nat → Nat) (sz : Nat) (B : Nat → Nat → Int32) (R : Nat → Nat → Int32) (E : Nat → Nat → Int32) (td : Int32) (dd : Int32) (oo : Nat → Int64) (h1 : ¬ dd < 1) (h2 : dd ≤ 100) : Met l yL_advance wsL_advance ({ frames := 2, cells := 0, slots := 0, locals := 43 } : Room) (va_Pc [.ref (a 0), .int (dd), .ref (a 26)] (PreL D cI cZ cL (wL a cI cZ cL B R E (td) oo) sz)) (va_Qi (fun (r : Int32) (u : Unit) => r = 0) (fun (u : Unit) => PostL D cI cZ cL (va_A (wL a cI cZ cL B R E (td) oo) sz) (wL a cI cZ cL B R E ((td + dd)) (vp_updL oo 0 (td + dd).toInt64))) (va_A (wL a cI cZ cL B R E (td) oo) sz)) 0 0 (va_A (wL a cI cZ cL B R E (td) oo) sz) := by
  refine va_MetW (cc := cL_advance) (maxL := 4) (ret := (some .int)) (hh := [(0, 9, 12, 15)]) (by decide) rfl ?_
  intro p e s m args below meth c s₁ BB hml hv
  obtain ⟨rfl, ⟨hsz, hP, hK3, hD0⟩, hX, hZ⟩ := hv
  have hx := BB.exec
  have hb := BB.bytes
  have hr := BB.returns
  have hts := atoms_spec (ws := wsL_advance) BB.pre
  have hown : s.vm.findClass RL = some m.cls := findClass_of_methodNamed BB.named
  have hlocks := BB.notSynchronized
  clear BB
  subst hsz
  have hK := hK3.sub (tys' := tyl cI cZ) [0, 1] rfl
  have hD := hD0.self (sz := s.heap.size)
  clear hD0
  generalize hAe : va_A (wL a cI cZ cL B R E (td) oo) s.heap.size = A at hD hZ ⊢
  have hA : ∀ q : Nat, s.heap.size ≤ q → A q := fun q h => by rw [← hAe]; exact Or.inr h
  clear hAe
  have hl := lv_entry ([.ref (a 0), .int (dd), .ref (a 26)]) (n := 4) (Nat.le_of_ble_eq_true rfl)
  rw [lg_entry_eq]
  generalize (lg_sl ([.ref (a 0), .int (dd), .ref (a 26)]) ++ List.replicate (4 - (lg_sl ([.ref (a 0), .int (dd), .ref (a 26)])).length) Slot.unset).toArray = ls at hl ⊢
  have hl : lv_has ls 4 [(0, .ref (a 0)), (1, .int (dd)), (2, .ref (a 26))] := hl
  generalize hHe : s.heap = H at hP ⊢
  have hS : va_S A s.heap H [] := by rw [← hHe]; exact va_S.rf
  clear hHe
  generalize hLe : ([] : List Loc) = locs at hS ⊢
  clear hLe
  refine lv_aload_n hx hb dL_advance_0 rfl (lv_at hl 2 rfl) ?_
  refine lv_iconst (v := 0) hx hb dL_advance_1 (by decide) ?_
  refine lv_aload_n hx hb dL_advance_2 rfl (lv_at hl 0 rfl) ?_
  refine lv_iload_n hx hb dL_advance_3 rfl (lv_at hl 1 rfl) ?_
  refine zcVi (ci := 3) (q0 := 0) (wf := (fun (u : Int32) => (wL a cI cZ cL B R E (u) oo))) ksCA ⟨hx, hb, hml, hown, hts⟩ (zwCA hP hD hS hA) hK (c_X3_advance l D cI cZ a H.size (B) (R) (E) (td) (dd) (by first | assumption | omega) (by first | assumption | omega)) (cwV 1 hts gL_advance_X3_advance rfl rfl rfl (by decide +kernel) ⟨Nat.le_of_ble_eq_true rfl, Nat.le_of_ble_eq_true rfl⟩) rfl rfl (by decide) (fun _ => zkCA _) rfl hl.1 rfl (Nat.le_of_ble_eq_true rfl) dL_advance_4 ⟨Nat.le_of_ble_eq_true rfl, Nat.le_of_ble_eq_true rfl⟩ (fun r4 u H locs hw hP hD hS => ?_)
  obtain ⟨rfl, rfl⟩ := hw
  have hP : va_P D vwCl (wL a cI cZ cL B R E ((td) + (dd)) oo) H := hP
  have hD : va_D A (wL a cI cZ cL B R E ((td) + (dd)) oo) := hD
  refine lv_i2l (v := ((td) + (dd)).toInt64) hx hb dL_advance_7 rfl ?_
  refine zlst hx hb hK3 hP hD hS 26 rfl (wL a cI cZ cL B R E ((td + dd)) (vp_updL oo 0 (td + dd).toInt64)) rfl dL_advance_8 (fun H locs hP hD hS => ?_)
  refine lv_goto (tgt := 15) hx hb dL_advance_9 (by decide) ?_
  refine lv_iconst (v := 0) hx hb dL_advance_15 (by decide) ?_
  exact W.iret (v := 0) hx hb hr (fun t ht hW => ⟨⟨0, (), rfl, rfl, by rw [ht]; exact hP, va_K.moved hW.alike hK3, hD⟩, hS.F ht⟩) hS.2.2 dL_advance_16
set_option maxHeartbeats 4000000 in
set_option maxRecDepth 100000 in
theorem c_L_advance_k (l : Launch) (hfl : l.stackTraces = false) (D : va_G) (cI cZ cL : ClassId) (a : Nat → Nat) (sz : Nat) (B : Nat → Nat → Int32) (R : Nat → Nat → Int32) (E : Nat → Nat → Int32) (td : Int32) (dd : Int32) (oo : Nat → Int64) (h : dd < 1 ∨ ¬ dd ≤ 100) : Met l yL_advance wsL_advance ({ frames := 8, cells := 1, slots := 6, locals := 133 } : Room) (va_Pc [.ref (a 0), .int (dd), .ref (a 26)] (PreL D cI cZ cL (wL a cI cZ cL B R E (td) oo) sz)) (va_Qi (fun (r : Int32) (u : Unit) => r = 1) (fun (u : Unit) => PostL D cI cZ cL (va_A (wL a cI cZ cL B R E (td) oo) sz) (wL a cI cZ cL B R E (td) oo)) (va_A (wL a cI cZ cL B R E (td) oo) sz)) 1 6 (va_A (wL a cI cZ cL B R E (td) oo) sz) := by
  refine va_MetW (cc := cL_advance) (maxL := 4) (ret := (some .int)) (hh := [(0, 9, 12, 15)]) (by decide) rfl ?_
  intro p e s m args below meth c s₁ BB hml hv
  obtain ⟨rfl, ⟨hsz, hP, hK3, hD0⟩, hX, hZ⟩ := hv
  have hx := BB.exec
  have hb := BB.bytes
  have hr := BB.returns
  have hts := atoms_spec (ws := wsL_advance) BB.pre
  have hown : s.vm.findClass RL = some m.cls := findClass_of_methodNamed BB.named
  have hlocks := BB.notSynchronized
  have htab : c.exceptionTable.toList = tableOf [(0, 9, 12, 15)] := vx_table (x := yL_advance) BB (hts (.codeWith yL_advance cL_advance 4 (some .int) [(0, 9, 12, 15)]) List.mem_cons_self)
  clear BB
  subst hsz
  have hK := hK3.sub (tys' := tyl cI cZ) [0, 1] rfl
  have hD := hD0.self (sz := s.heap.size)
  clear hD0
  generalize hAe : va_A (wL a cI cZ cL B R E (td) oo) s.heap.size = A at hD hZ ⊢
  have hA : ∀ q : Nat, s.heap.size ≤ q → A q := fun q h => by rw [← hAe]; exact Or.inr h
  clear hAe
  have hl := lv_entry ([.ref (a 0), .int (dd), .ref (a 26)]) (n := 4) (Nat.le_of_ble_eq_true rfl)
  rw [lg_entry_eq]
  generalize (lg_sl ([.ref (a 0), .int (dd), .ref (a 26)]) ++ List.replicate (4 - (lg_sl ([.ref (a 0), .int (dd), .ref (a 26)])).length) Slot.unset).toArray = ls at hl ⊢
  have hl : lv_has ls 4 [(0, .ref (a 0)), (1, .int (dd)), (2, .ref (a 26))] := hl
  generalize hHe : s.heap = H at hP ⊢
  have hS : va_S A s.heap H [] := by rw [← hHe]; exact va_S.rf
  clear hHe
  generalize hLe : ([] : List Loc) = locs at hS ⊢
  clear hLe
  refine lv_aload_n hx hb dL_advance_0 rfl (lv_at hl 2 rfl) ?_
  refine lv_iconst (v := 0) hx hb dL_advance_1 (by decide) ?_
  refine lv_aload_n hx hb dL_advance_2 rfl (lv_at hl 0 rfl) ?_
  refine lv_iload_n hx hb dL_advance_3 rfl (lv_at hl 1 rfl) ?_
  refine zxV (ci := 3) (q0 := 0) ksCA ⟨hx, hb, hml, hown, hts⟩ (zwCA hP hD hS hA) hK hX hZ (x_X3_advance l hfl D cI cZ a H.size (B) (R) (E) (td) (dd) (h)) (cwV 1 hts gL_advance_X3_advance rfl rfl rfl (by decide +kernel) ⟨Nat.le_of_ble_eq_true rfl, Nat.le_of_ble_eq_true rfl⟩) rfl rfl (by decide) (zkCA _) rfl hl.1 rfl (Nat.le_of_ble_eq_true rfl) dL_advance_4 ⟨Nat.le_of_ble_eq_true rfl, Nat.le_of_ble_eq_true rfl⟩ (fun ce q9 H locs hP hD hS hce hcv hcl => ?_)
  refine vx_catch (E := eA) (name := eA) hown [] ⟨0, 9, 12, 15⟩ [] htab (fun z hz => nomatch hz) rfl (by decide) (hts (.classLink RL 15 "java/lang/IllegalArgumentException") (by decide +kernel)) (va_Nw.use rfl (hX.1.2.2.1)) hce hcv hcl ?_
  refine lv_astore_n (lv' := [(3, .ref (q9)), (0, .ref (a 0)), (1, .int (dd)), (2, .ref (a 26))]) hx hb dL_advance_12 rfl hl (by decide) rfl (fun ls hl => ?_)
  refine lv_iconst (v := 1) hx hb dL_advance_13 (by decide) ?_
  exact W.iret (v := 1) hx hb hr (fun t ht hW => ⟨⟨1, (), rfl, rfl, by rw [ht]; exact hP, va_K.moved hW.alike hK3, hD⟩, hS.F ht⟩) hS.2.2 dL_advance_14
set_option maxHeartbeats 4000000 in
set_option maxRecDepth 100000 in
theorem c_L_open_0 (l : Launch) (D : va_G) (cI cZ cL : ClassId) (a : Nat → Nat) (sz : Nat) (B : Nat → Nat → Int32) (R : Nat → Nat → Int32) (E : Nat → Nat → Int32) (td : Int32) (n : Nat) (i : Nat) (oo : Nat → Int64) (hB : B 11 0 = nI n) (hn : n ≤ 40) (hbn : i < n) : Met l yL_open wsL_open ({ frames := 2, cells := 0, slots := 0, locals := 42 } : Room) (va_Pc [.ref (a 0), .int (nI (i)), .ref (a 26)] (PreL D cI cZ cL (wL a cI cZ cL B R E (td) oo) sz)) (va_Qi (fun (r : Int32) (u : Unit) => r = 0) (fun (u : Unit) => PostL D cI cZ cL (va_A (wL a cI cZ cL B R E (td) oo) sz) (wL a cI cZ cL B R E (td) (vp_updL oo 0 (opn B i).toInt64))) (va_A (wL a cI cZ cL B R E (td) oo) sz)) 0 0 (va_A (wL a cI cZ cL B R E (td) oo) sz) := by
  refine va_MetW (cc := cL_open) (maxL := 4) (ret := (some .int)) (hh := [(0, 9, 12, 13)]) (by decide) rfl ?_
  intro p e s m args below meth c s₁ BB hml hv
  obtain ⟨rfl, ⟨hsz, hP, hK3, hD0⟩, hX, hZ⟩ := hv
  have hx := BB.exec
  have hb := BB.bytes
  have hr := BB.returns
  have hts := atoms_spec (ws := wsL_open) BB.pre
  have hown : s.vm.findClass RL = some m.cls := findClass_of_methodNamed BB.named
  have hlocks := BB.notSynchronized
  clear BB
  subst hsz
  have hK := hK3.sub (tys' := tyl cI cZ) [0, 1] rfl
  have hD := hD0.self (sz := s.heap.size)
  clear hD0
  generalize hAe : va_A (wL a cI cZ cL B R E (td) oo) s.heap.size = A at hD hZ ⊢
  have hA : ∀ q : Nat, s.heap.size ≤ q → A q := fun q h => by rw [← hAe]; exact Or.inr h
  clear hAe
  have hl := lv_entry ([.ref (a 0), .int (nI (i)), .ref (a 26)]) (n := 4) (Nat.le_of_ble_eq_true rfl)
  rw [lg_entry_eq]
  generalize (lg_sl ([.ref (a 0), .int (nI (i)), .ref (a 26)]) ++ List.replicate (4 - (lg_sl ([.ref (a 0), .int (nI (i)), .ref (a 26)])).length) Slot.unset).toArray = ls at hl ⊢
  have hl : lv_has ls 4 [(0, .ref (a 0)), (1, .int (nI (i))), (2, .ref (a 26))] := hl
  generalize hHe : s.heap = H at hP ⊢
  have hS : va_S A s.heap H [] := by rw [← hHe]; exact va_S.rf
  clear hHe
  generalize hLe : ([] : List Loc) = locs at hS ⊢
  clear hLe
  refine lv_aload_n hx hb dL_open_0 rfl (lv_at hl 2 rfl) ?_
  refine lv_iconst (v := 0) hx hb dL_open_1 (by decide) ?_
  refine lv_aload_n hx hb dL_open_2 rfl (lv_at hl 0 rfl) ?_
  refine lv_iload_n hx hb dL_open_3 rfl (lv_at hl 1 rfl) ?_
  refine zcVi (ci := 3) (q0 := 0) (wf := (fun (u : Unit) => (wL a cI cZ cL B R E (td) oo))) ksCA ⟨hx, hb, hml, hown, hts⟩ (zwCA hP hD hS hA) hK (c_X3_open l D cI cZ a H.size (B) (R) (E) (td) (n) (i) (by first | assumption | omega) (by first | assumption | omega) (by first | assumption | omega)) (cwV 1 hts gL_open_X3_open rfl rfl rfl (by decide +kernel) ⟨Nat.le_of_ble_eq_true rfl, Nat.le_of_ble_eq_true rfl⟩) rfl rfl (by decide) (fun _ => zkCA _) rfl hl.1 rfl (Nat.le_of_ble_eq_true rfl) dL_open_4 ⟨Nat.le_of_ble_eq_true rfl, Nat.le_of_ble_eq_true rfl⟩ (fun r4 u H locs hw hP hD hS => ?_)
  subst hw
  refine lv_i2l (v := (opn (B) (i)).toInt64) hx hb dL_open_7 rfl ?_
  refine zlst hx hb hK3 hP hD hS 26 rfl (wL a cI cZ cL B R E (td) (vp_updL oo 0 (opn B i).toInt64)) rfl dL_open_8 (fun H locs hP hD hS => ?_)
  refine lv_goto (tgt := 15) hx hb dL_open_9 (by decide) ?_
  refine lv_iconst (v := 0) hx hb dL_open_15 (by decide) ?_
  exact W.iret (v := 0) hx hb hr (fun t ht hW => ⟨⟨0, (), rfl, rfl, by rw [ht]; exact hP, va_K.moved hW.alike hK3, hD⟩, hS.F ht⟩) hS.2.2 dL_open_16
set_option maxHeartbeats 4000000 in
set_option maxRecDepth 100000 in
theorem c_L_open_k (l : Launch) (hfl : l.stackTraces = false) (D : va_G) (cI cZ cL : ClassId) (a : Nat → Nat) (sz : Nat) (B : Nat → Nat → Int32) (R : Nat → Nat → Int32) (E : Nat → Nat → Int32) (td : Int32) (vx : Int32) (oo : Nat → Int64) (h : vx < 0 ∨ ¬ vx < B 11 0) : Met l yL_open wsL_open ({ frames := 8, cells := 1, slots := 6, locals := 132 } : Room) (va_Pc [.ref (a 0), .int (vx), .ref (a 26)] (PreL D cI cZ cL (wL a cI cZ cL B R E (td) oo) sz)) (va_Qi (fun (r : Int32) (u : Unit) => r = 1) (fun (u : Unit) => PostL D cI cZ cL (va_A (wL a cI cZ cL B R E (td) oo) sz) (wL a cI cZ cL B R E (td) oo)) (va_A (wL a cI cZ cL B R E (td) oo) sz)) 1 6 (va_A (wL a cI cZ cL B R E (td) oo) sz) := by
  refine va_MetW (cc := cL_open) (maxL := 4) (ret := (some .int)) (hh := [(0, 9, 12, 13)]) (by decide) rfl ?_
  intro p e s m args below meth c s₁ BB hml hv
  obtain ⟨rfl, ⟨hsz, hP, hK3, hD0⟩, hX, hZ⟩ := hv
  have hx := BB.exec
  have hb := BB.bytes
  have hr := BB.returns
  have hts := atoms_spec (ws := wsL_open) BB.pre
  have hown : s.vm.findClass RL = some m.cls := findClass_of_methodNamed BB.named
  have hlocks := BB.notSynchronized
  have htab : c.exceptionTable.toList = tableOf [(0, 9, 12, 13)] := vx_table (x := yL_open) BB (hts (.codeWith yL_open cL_open 4 (some .int) [(0, 9, 12, 13)]) List.mem_cons_self)
  clear BB
  subst hsz
  have hK := hK3.sub (tys' := tyl cI cZ) [0, 1] rfl
  have hD := hD0.self (sz := s.heap.size)
  clear hD0
  generalize hAe : va_A (wL a cI cZ cL B R E (td) oo) s.heap.size = A at hD hZ ⊢
  have hA : ∀ q : Nat, s.heap.size ≤ q → A q := fun q h => by rw [← hAe]; exact Or.inr h
  clear hAe
  have hl := lv_entry ([.ref (a 0), .int (vx), .ref (a 26)]) (n := 4) (Nat.le_of_ble_eq_true rfl)
  rw [lg_entry_eq]
  generalize (lg_sl ([.ref (a 0), .int (vx), .ref (a 26)]) ++ List.replicate (4 - (lg_sl ([.ref (a 0), .int (vx), .ref (a 26)])).length) Slot.unset).toArray = ls at hl ⊢
  have hl : lv_has ls 4 [(0, .ref (a 0)), (1, .int (vx)), (2, .ref (a 26))] := hl
  generalize hHe : s.heap = H at hP ⊢
  have hS : va_S A s.heap H [] := by rw [← hHe]; exact va_S.rf
  clear hHe
  generalize hLe : ([] : List Loc) = locs at hS ⊢
  clear hLe
  refine lv_aload_n hx hb dL_open_0 rfl (lv_at hl 2 rfl) ?_
  refine lv_iconst (v := 0) hx hb dL_open_1 (by decide) ?_
  refine lv_aload_n hx hb dL_open_2 rfl (lv_at hl 0 rfl) ?_
  refine lv_iload_n hx hb dL_open_3 rfl (lv_at hl 1 rfl) ?_
  refine zxV (ci := 3) (q0 := 0) ksCA ⟨hx, hb, hml, hown, hts⟩ (zwCA hP hD hS hA) hK hX hZ (x_X3_open l hfl D cI cZ a H.size (B) (R) (E) (td) (vx) (h)) (cwV 1 hts gL_open_X3_open rfl rfl rfl (by decide +kernel) ⟨Nat.le_of_ble_eq_true rfl, Nat.le_of_ble_eq_true rfl⟩) rfl rfl (by decide) (zkCA _) rfl hl.1 rfl (Nat.le_of_ble_eq_true rfl) dL_open_4 ⟨Nat.le_of_ble_eq_true rfl, Nat.le_of_ble_eq_true rfl⟩ (fun ce q9 H locs hP hD hS hce hcv hcl => ?_)
  refine vx_catch (E := eI) (name := eI) hown [] ⟨0, 9, 12, 13⟩ [] htab (fun z hz => nomatch hz) rfl (by decide) (hts (.classLink RL 13 "java/lang/IndexOutOfBoundsException") (by decide +kernel)) (va_Nw.use rfl (hX.1.2.1)) hce hcv hcl ?_
  refine lv_astore_n (lv' := [(3, .ref (q9)), (0, .ref (a 0)), (1, .int (vx)), (2, .ref (a 26))]) hx hb dL_open_12 rfl hl (by decide) rfl (fun ls hl => ?_)
  refine lv_iconst (v := 1) hx hb dL_open_13 (by decide) ?_
  exact W.iret (v := 1) hx hb hr (fun t ht hW => ⟨⟨1, (), rfl, rfl, by rw [ht]; exact hP, va_K.moved hW.alike hK3, hD⟩, hS.F ht⟩) hS.2.2 dL_open_14
set_option maxHeartbeats 4000000 in
set_option maxRecDepth 100000 in
theorem c_L_due_0 (l : Launch) (D : va_G) (cI cZ cL : ClassId) (a : Nat → Nat) (sz : Nat) (B : Nat → Nat → Int32) (R : Nat → Nat → Int32) (E : Nat → Nat → Int32) (td : Int32) (n : Nat) (i : Nat) (oo : Nat → Int64) (hB : B 11 0 = nI n) (hn : n ≤ 40) (hbn : i < n) : Met l yL_due wsL_due ({ frames := 4, cells := 0, slots := 0, locals := 87 } : Room) (va_Pc [.ref (a 0), .int (nI (i)), .ref (a 26)] (PreL D cI cZ cL (wL a cI cZ cL B R E (td) oo) sz)) (va_Qi (fun (r : Int32) (u : Unit) => r = 0) (fun (u : Unit) => PostL D cI cZ cL (va_A (wL a cI cZ cL B R E (td) oo) sz) (wL a cI cZ cL B R E (td) (vp_updL oo 0 (dueN B i td).toInt64))) (va_A (wL a cI cZ cL B R E (td) oo) sz)) 0 0 (va_A (wL a cI cZ cL B R E (td) oo) sz) := by
  refine va_MetW (cc := cL_due) (maxL := 4) (ret := (some .int)) (hh := [(0, 9, 12, 13)]) (by decide) rfl ?_
  intro p e s m args below meth c s₁ BB hml hv
  obtain ⟨rfl, ⟨hsz, hP, hK3, hD0⟩, hX, hZ⟩ := hv
  have hx := BB.exec
  have hb := BB.bytes
  have hr := BB.returns
  have hts := atoms_spec (ws := wsL_due) BB.pre
  have hown : s.vm.findClass RL = some m.cls := findClass_of_methodNamed BB.named
  have hlocks := BB.notSynchronized
  clear BB
  subst hsz
  have hK := hK3.sub (tys' := tyl cI cZ) [0, 1] rfl
  have hD := hD0.self (sz := s.heap.size)
  clear hD0
  generalize hAe : va_A (wL a cI cZ cL B R E (td) oo) s.heap.size = A at hD hZ ⊢
  have hA : ∀ q : Nat, s.heap.size ≤ q → A q := fun q h => by rw [← hAe]; exact Or.inr h
  clear hAe
  have hl := lv_entry ([.ref (a 0), .int (nI (i)), .ref (a 26)]) (n := 4) (Nat.le_of_ble_eq_true rfl)
  rw [lg_entry_eq]
  generalize (lg_sl ([.ref (a 0), .int (nI (i)), .ref (a 26)]) ++ List.replicate (4 - (lg_sl ([.ref (a 0), .int (nI (i)), .ref (a 26)])).length) Slot.unset).toArray = ls at hl ⊢
  have hl : lv_has ls 4 [(0, .ref (a 0)), (1, .int (nI (i))), (2, .ref (a 26))] := hl
  generalize hHe : s.heap = H at hP ⊢
  have hS : va_S A s.heap H [] := by rw [← hHe]; exact va_S.rf
  clear hHe
  generalize hLe : ([] : List Loc) = locs at hS ⊢
  clear hLe
  refine lv_aload_n hx hb dL_due_0 rfl (lv_at hl 2 rfl) ?_
  refine lv_iconst (v := 0) hx hb dL_due_1 (by decide) ?_
  refine lv_aload_n hx hb dL_due_2 rfl (lv_at hl 0 rfl) ?_
  refine lv_iload_n hx hb dL_due_3 rfl (lv_at hl 1 rfl) ?_
  refine zcVi (ci := 3) (q0 := 0) (wf := (fun (u : Unit) => (wL a cI cZ cL B R E (td) oo))) ksCA ⟨hx, hb, hml, hown, hts⟩ (zwCA hP hD hS hA) hK (c_X3_due l D cI cZ a H.size (B) (R) (E) (td) (n) (i) (by first | assumption | omega) (by first | assumption | omega) (by first | assumption | omega)) (cwV 1 hts gL_due_X3_due rfl rfl rfl (by decide +kernel) ⟨Nat.le_of_ble_eq_true rfl, Nat.le_of_ble_eq_true rfl⟩) rfl rfl (by decide) (fun _ => zkCA _) rfl hl.1 rfl (Nat.le_of_ble_eq_true rfl) dL_due_4 ⟨Nat.le_of_ble_eq_true rfl, Nat.le_of_ble_eq_true rfl⟩ (fun r4 u H locs hw hP hD hS => ?_)
  subst hw
  refine lv_i2l (v := (dueN (B) (i) (td)).toInt64) hx hb dL_due_7 rfl ?_
  refine zlst hx hb hK3 hP hD hS 26 rfl (wL a cI cZ cL B R E (td) (vp_updL oo 0 (dueN B i td).toInt64)) rfl dL_due_8 (fun H locs hP hD hS => ?_)
  refine lv_goto (tgt := 15) hx hb dL_due_9 (by decide) ?_
  refine lv_iconst (v := 0) hx hb dL_due_15 (by decide) ?_
  exact W.iret (v := 0) hx hb hr (fun t ht hW => ⟨⟨0, (), rfl, rfl, by rw [ht]; exact hP, va_K.moved hW.alike hK3, hD⟩, hS.F ht⟩) hS.2.2 dL_due_16
set_option maxHeartbeats 4000000 in
set_option maxRecDepth 100000 in
theorem c_L_due_k (l : Launch) (hfl : l.stackTraces = false) (D : va_G) (cI cZ cL : ClassId) (a : Nat → Nat) (sz : Nat) (B : Nat → Nat → Int32) (R : Nat → Nat → Int32) (E : Nat → Nat → Int32) (td : Int32) (vx : Int32) (oo : Nat → Int64) (h : vx < 0 ∨ ¬ vx < B 11 0) : Met l yL_due wsL_due ({ frames := 8, cells := 1, slots := 6, locals := 132 } : Room) (va_Pc [.ref (a 0), .int (vx), .ref (a 26)] (PreL D cI cZ cL (wL a cI cZ cL B R E (td) oo) sz)) (va_Qi (fun (r : Int32) (u : Unit) => r = 1) (fun (u : Unit) => PostL D cI cZ cL (va_A (wL a cI cZ cL B R E (td) oo) sz) (wL a cI cZ cL B R E (td) oo)) (va_A (wL a cI cZ cL B R E (td) oo) sz)) 1 6 (va_A (wL a cI cZ cL B R E (td) oo) sz) := by
  refine va_MetW (cc := cL_due) (maxL := 4) (ret := (some .int)) (hh := [(0, 9, 12, 13)]) (by decide) rfl ?_
  intro p e s m args below meth c s₁ BB hml hv
  obtain ⟨rfl, ⟨hsz, hP, hK3, hD0⟩, hX, hZ⟩ := hv
  have hx := BB.exec
  have hb := BB.bytes
  have hr := BB.returns
  have hts := atoms_spec (ws := wsL_due) BB.pre
  have hown : s.vm.findClass RL = some m.cls := findClass_of_methodNamed BB.named
  have hlocks := BB.notSynchronized
  have htab : c.exceptionTable.toList = tableOf [(0, 9, 12, 13)] := vx_table (x := yL_due) BB (hts (.codeWith yL_due cL_due 4 (some .int) [(0, 9, 12, 13)]) List.mem_cons_self)
  clear BB
  subst hsz
  have hK := hK3.sub (tys' := tyl cI cZ) [0, 1] rfl
  have hD := hD0.self (sz := s.heap.size)
  clear hD0
  generalize hAe : va_A (wL a cI cZ cL B R E (td) oo) s.heap.size = A at hD hZ ⊢
  have hA : ∀ q : Nat, s.heap.size ≤ q → A q := fun q h => by rw [← hAe]; exact Or.inr h
  clear hAe
  have hl := lv_entry ([.ref (a 0), .int (vx), .ref (a 26)]) (n := 4) (Nat.le_of_ble_eq_true rfl)
  rw [lg_entry_eq]
  generalize (lg_sl ([.ref (a 0), .int (vx), .ref (a 26)]) ++ List.replicate (4 - (lg_sl ([.ref (a 0), .int (vx), .ref (a 26)])).length) Slot.unset).toArray = ls at hl ⊢
  have hl : lv_has ls 4 [(0, .ref (a 0)), (1, .int (vx)), (2, .ref (a 26))] := hl
  generalize hHe : s.heap = H at hP ⊢
  have hS : va_S A s.heap H [] := by rw [← hHe]; exact va_S.rf
  clear hHe
  generalize hLe : ([] : List Loc) = locs at hS ⊢
  clear hLe
  refine lv_aload_n hx hb dL_due_0 rfl (lv_at hl 2 rfl) ?_
  refine lv_iconst (v := 0) hx hb dL_due_1 (by decide) ?_
  refine lv_aload_n hx hb dL_due_2 rfl (lv_at hl 0 rfl) ?_
  refine lv_iload_n hx hb dL_due_3 rfl (lv_at hl 1 rfl) ?_
  refine zxV (ci := 3) (q0 := 0) ksCA ⟨hx, hb, hml, hown, hts⟩ (zwCA hP hD hS hA) hK hX hZ (x_X3_due l hfl D cI cZ a H.size (B) (R) (E) (td) (vx) (h)) (cwV 1 hts gL_due_X3_due rfl rfl rfl (by decide +kernel) ⟨Nat.le_of_ble_eq_true rfl, Nat.le_of_ble_eq_true rfl⟩) rfl rfl (by decide) (zkCA _) rfl hl.1 rfl (Nat.le_of_ble_eq_true rfl) dL_due_4 ⟨Nat.le_of_ble_eq_true rfl, Nat.le_of_ble_eq_true rfl⟩ (fun ce q9 H locs hP hD hS hce hcv hcl => ?_)
  refine vx_catch (E := eI) (name := eI) hown [] ⟨0, 9, 12, 13⟩ [] htab (fun z hz => nomatch hz) rfl (by decide) (hts (.classLink RL 13 "java/lang/IndexOutOfBoundsException") (by decide +kernel)) (va_Nw.use rfl (hX.1.2.1)) hce hcv hcl ?_
  refine lv_astore_n (lv' := [(3, .ref (q9)), (0, .ref (a 0)), (1, .int (vx)), (2, .ref (a 26))]) hx hb dL_due_12 rfl hl (by decide) rfl (fun ls hl => ?_)
  refine lv_iconst (v := 1) hx hb dL_due_13 (by decide) ?_
  exact W.iret (v := 1) hx hb hr (fun t ht hW => ⟨⟨1, (), rfl, rfl, by rw [ht]; exact hP, va_K.moved hW.alike hK3, hD⟩, hS.F ht⟩) hS.2.2 dL_due_14
set_option maxHeartbeats 4000000 in
set_option maxRecDepth 100000 in
theorem c_L_paid_0 (l : Launch) (D : va_G) (cI cZ cL : ClassId) (a : Nat → Nat) (sz : Nat) (B : Nat → Nat → Int32) (R : Nat → Nat → Int32) (E : Nat → Nat → Int32) (td : Int32) (n : Nat) (i : Nat) (oo : Nat → Int64) (hB : B 11 0 = nI n) (hn : n ≤ 40) (hbn : i < n) : Met l yL_paid wsL_paid ({ frames := 2, cells := 0, slots := 0, locals := 42 } : Room) (va_Pc [.ref (a 0), .int (nI (i)), .ref (a 26)] (PreL D cI cZ cL (wL a cI cZ cL B R E (td) oo) sz)) (va_Qi (fun (r : Int32) (u : Unit) => r = 0) (fun (u : Unit) => PostL D cI cZ cL (va_A (wL a cI cZ cL B R E (td) oo) sz) (wL a cI cZ cL B R E (td) (vp_updL oo 0 (B 5 i).toInt64))) (va_A (wL a cI cZ cL B R E (td) oo) sz)) 0 0 (va_A (wL a cI cZ cL B R E (td) oo) sz) := by
  refine va_MetW (cc := cL_paid) (maxL := 4) (ret := (some .int)) (hh := [(0, 9, 12, 13)]) (by decide) rfl ?_
  intro p e s m args below meth c s₁ BB hml hv
  obtain ⟨rfl, ⟨hsz, hP, hK3, hD0⟩, hX, hZ⟩ := hv
  have hx := BB.exec
  have hb := BB.bytes
  have hr := BB.returns
  have hts := atoms_spec (ws := wsL_paid) BB.pre
  have hown : s.vm.findClass RL = some m.cls := findClass_of_methodNamed BB.named
  have hlocks := BB.notSynchronized
  clear BB
  subst hsz
  have hK := hK3.sub (tys' := tyl cI cZ) [0, 1] rfl
  have hD := hD0.self (sz := s.heap.size)
  clear hD0
  generalize hAe : va_A (wL a cI cZ cL B R E (td) oo) s.heap.size = A at hD hZ ⊢
  have hA : ∀ q : Nat, s.heap.size ≤ q → A q := fun q h => by rw [← hAe]; exact Or.inr h
  clear hAe
  have hl := lv_entry ([.ref (a 0), .int (nI (i)), .ref (a 26)]) (n := 4) (Nat.le_of_ble_eq_true rfl)
  rw [lg_entry_eq]
  generalize (lg_sl ([.ref (a 0), .int (nI (i)), .ref (a 26)]) ++ List.replicate (4 - (lg_sl ([.ref (a 0), .int (nI (i)), .ref (a 26)])).length) Slot.unset).toArray = ls at hl ⊢
  have hl : lv_has ls 4 [(0, .ref (a 0)), (1, .int (nI (i))), (2, .ref (a 26))] := hl
  generalize hHe : s.heap = H at hP ⊢
  have hS : va_S A s.heap H [] := by rw [← hHe]; exact va_S.rf
  clear hHe
  generalize hLe : ([] : List Loc) = locs at hS ⊢
  clear hLe
  refine lv_aload_n hx hb dL_paid_0 rfl (lv_at hl 2 rfl) ?_
  refine lv_iconst (v := 0) hx hb dL_paid_1 (by decide) ?_
  refine lv_aload_n hx hb dL_paid_2 rfl (lv_at hl 0 rfl) ?_
  refine lv_iload_n hx hb dL_paid_3 rfl (lv_at hl 1 rfl) ?_
  refine zcVi (ci := 3) (q0 := 0) (wf := (fun (u : Unit) => (wL a cI cZ cL B R E (td) oo))) ksCA ⟨hx, hb, hml, hown, hts⟩ (zwCA hP hD hS hA) hK (c_X3_paid l D cI cZ a H.size (B) (R) (E) (td) (n) (i) (by first | assumption | omega) (by first | assumption | omega) (by first | assumption | omega)) (cwV 1 hts gL_paid_X3_paid rfl rfl rfl (by decide +kernel) ⟨Nat.le_of_ble_eq_true rfl, Nat.le_of_ble_eq_true rfl⟩) rfl rfl (by decide) (fun _ => zkCA _) rfl hl.1 rfl (Nat.le_of_ble_eq_true rfl) dL_paid_4 ⟨Nat.le_of_ble_eq_true rfl, Nat.le_of_ble_eq_true rfl⟩ (fun r4 u H locs hw hP hD hS => ?_)
  subst hw
  refine lv_i2l (v := ((B) 5 (i)).toInt64) hx hb dL_paid_7 rfl ?_
  refine zlst hx hb hK3 hP hD hS 26 rfl (wL a cI cZ cL B R E (td) (vp_updL oo 0 (B 5 i).toInt64)) rfl dL_paid_8 (fun H locs hP hD hS => ?_)
  refine lv_goto (tgt := 15) hx hb dL_paid_9 (by decide) ?_
  refine lv_iconst (v := 0) hx hb dL_paid_15 (by decide) ?_
  exact W.iret (v := 0) hx hb hr (fun t ht hW => ⟨⟨0, (), rfl, rfl, by rw [ht]; exact hP, va_K.moved hW.alike hK3, hD⟩, hS.F ht⟩) hS.2.2 dL_paid_16
set_option maxHeartbeats 4000000 in
set_option maxRecDepth 100000 in
theorem c_L_paid_k (l : Launch) (hfl : l.stackTraces = false) (D : va_G) (cI cZ cL : ClassId) (a : Nat → Nat) (sz : Nat) (B : Nat → Nat → Int32) (R : Nat → Nat → Int32) (E : Nat → Nat → Int32) (td : Int32) (vx : Int32) (oo : Nat → Int64) (h : vx < 0 ∨ ¬ vx < B 11 0) : Met l yL_paid wsL_paid ({ frames := 8, cells := 1, slots := 6, locals := 132 } : Room) (va_Pc [.ref (a 0), .int (vx), .ref (a 26)] (PreL D cI cZ cL (wL a cI cZ cL B R E (td) oo) sz)) (va_Qi (fun (r : Int32) (u : Unit) => r = 1) (fun (u : Unit) => PostL D cI cZ cL (va_A (wL a cI cZ cL B R E (td) oo) sz) (wL a cI cZ cL B R E (td) oo)) (va_A (wL a cI cZ cL B R E (td) oo) sz)) 1 6 (va_A (wL a cI cZ cL B R E (td) oo) sz) := by
  refine va_MetW (cc := cL_paid) (maxL := 4) (ret := (some .int)) (hh := [(0, 9, 12, 13)]) (by decide) rfl ?_
  intro p e s m args below meth c s₁ BB hml hv
  obtain ⟨rfl, ⟨hsz, hP, hK3, hD0⟩, hX, hZ⟩ := hv
  have hx := BB.exec
  have hb := BB.bytes
  have hr := BB.returns
  have hts := atoms_spec (ws := wsL_paid) BB.pre
  have hown : s.vm.findClass RL = some m.cls := findClass_of_methodNamed BB.named
  have hlocks := BB.notSynchronized
  have htab : c.exceptionTable.toList = tableOf [(0, 9, 12, 13)] := vx_table (x := yL_paid) BB (hts (.codeWith yL_paid cL_paid 4 (some .int) [(0, 9, 12, 13)]) List.mem_cons_self)
  clear BB
  subst hsz
  have hK := hK3.sub (tys' := tyl cI cZ) [0, 1] rfl
  have hD := hD0.self (sz := s.heap.size)
  clear hD0
  generalize hAe : va_A (wL a cI cZ cL B R E (td) oo) s.heap.size = A at hD hZ ⊢
  have hA : ∀ q : Nat, s.heap.size ≤ q → A q := fun q h => by rw [← hAe]; exact Or.inr h
  clear hAe
  have hl := lv_entry ([.ref (a 0), .int (vx), .ref (a 26)]) (n := 4) (Nat.le_of_ble_eq_true rfl)
  rw [lg_entry_eq]
  generalize (lg_sl ([.ref (a 0), .int (vx), .ref (a 26)]) ++ List.replicate (4 - (lg_sl ([.ref (a 0), .int (vx), .ref (a 26)])).length) Slot.unset).toArray = ls at hl ⊢
  have hl : lv_has ls 4 [(0, .ref (a 0)), (1, .int (vx)), (2, .ref (a 26))] := hl
  generalize hHe : s.heap = H at hP ⊢
  have hS : va_S A s.heap H [] := by rw [← hHe]; exact va_S.rf
  clear hHe
  generalize hLe : ([] : List Loc) = locs at hS ⊢
  clear hLe
  refine lv_aload_n hx hb dL_paid_0 rfl (lv_at hl 2 rfl) ?_
  refine lv_iconst (v := 0) hx hb dL_paid_1 (by decide) ?_
  refine lv_aload_n hx hb dL_paid_2 rfl (lv_at hl 0 rfl) ?_
  refine lv_iload_n hx hb dL_paid_3 rfl (lv_at hl 1 rfl) ?_
  refine zxV (ci := 3) (q0 := 0) ksCA ⟨hx, hb, hml, hown, hts⟩ (zwCA hP hD hS hA) hK hX hZ (x_X3_paid l hfl D cI cZ a H.size (B) (R) (E) (td) (vx) (h)) (cwV 1 hts gL_paid_X3_paid rfl rfl rfl (by decide +kernel) ⟨Nat.le_of_ble_eq_true rfl, Nat.le_of_ble_eq_true rfl⟩) rfl rfl (by decide) (zkCA _) rfl hl.1 rfl (Nat.le_of_ble_eq_true rfl) dL_paid_4 ⟨Nat.le_of_ble_eq_true rfl, Nat.le_of_ble_eq_true rfl⟩ (fun ce q9 H locs hP hD hS hce hcv hcl => ?_)
  refine vx_catch (E := eI) (name := eI) hown [] ⟨0, 9, 12, 13⟩ [] htab (fun z hz => nomatch hz) rfl (by decide) (hts (.classLink RL 13 "java/lang/IndexOutOfBoundsException") (by decide +kernel)) (va_Nw.use rfl (hX.1.2.1)) hce hcv hcl ?_
  refine lv_astore_n (lv' := [(3, .ref (q9)), (0, .ref (a 0)), (1, .int (vx)), (2, .ref (a 26))]) hx hb dL_paid_12 rfl hl (by decide) rfl (fun ls hl => ?_)
  refine lv_iconst (v := 1) hx hb dL_paid_13 (by decide) ?_
  exact W.iret (v := 1) hx hb hr (fun t ht hW => ⟨⟨1, (), rfl, rfl, by rw [ht]; exact hP, va_K.moved hW.alike hK3, hD⟩, hS.F ht⟩) hS.2.2 dL_paid_14
set_option maxHeartbeats 4000000 in
set_option maxRecDepth 100000 in
theorem c_L_taken_0 (l : Launch) (D : va_G) (cI cZ cL : ClassId) (a : Nat → Nat) (sz : Nat) (B : Nat → Nat → Int32) (R : Nat → Nat → Int32) (E : Nat → Nat → Int32) (td : Int32) (n : Nat) (i : Nat) (oo : Nat → Int64) (hB : B 11 0 = nI n) (hn : n ≤ 40) (hbn : i < n) : Met l yL_taken wsL_taken ({ frames := 2, cells := 0, slots := 0, locals := 42 } : Room) (va_Pc [.ref (a 0), .int (nI (i)), .ref (a 26)] (PreL D cI cZ cL (wL a cI cZ cL B R E (td) oo) sz)) (va_Qi (fun (r : Int32) (u : Unit) => r = 0) (fun (u : Unit) => PostL D cI cZ cL (va_A (wL a cI cZ cL B R E (td) oo) sz) (wL a cI cZ cL B R E (td) (vp_updL oo 0 (B 6 i).toInt64))) (va_A (wL a cI cZ cL B R E (td) oo) sz)) 0 0 (va_A (wL a cI cZ cL B R E (td) oo) sz) := by
  refine va_MetW (cc := cL_taken) (maxL := 4) (ret := (some .int)) (hh := [(0, 9, 12, 13)]) (by decide) rfl ?_
  intro p e s m args below meth c s₁ BB hml hv
  obtain ⟨rfl, ⟨hsz, hP, hK3, hD0⟩, hX, hZ⟩ := hv
  have hx := BB.exec
  have hb := BB.bytes
  have hr := BB.returns
  have hts := atoms_spec (ws := wsL_taken) BB.pre
  have hown : s.vm.findClass RL = some m.cls := findClass_of_methodNamed BB.named
  have hlocks := BB.notSynchronized
  clear BB
  subst hsz
  have hK := hK3.sub (tys' := tyl cI cZ) [0, 1] rfl
  have hD := hD0.self (sz := s.heap.size)
  clear hD0
  generalize hAe : va_A (wL a cI cZ cL B R E (td) oo) s.heap.size = A at hD hZ ⊢
  have hA : ∀ q : Nat, s.heap.size ≤ q → A q := fun q h => by rw [← hAe]; exact Or.inr h
  clear hAe
  have hl := lv_entry ([.ref (a 0), .int (nI (i)), .ref (a 26)]) (n := 4) (Nat.le_of_ble_eq_true rfl)
  rw [lg_entry_eq]
  generalize (lg_sl ([.ref (a 0), .int (nI (i)), .ref (a 26)]) ++ List.replicate (4 - (lg_sl ([.ref (a 0), .int (nI (i)), .ref (a 26)])).length) Slot.unset).toArray = ls at hl ⊢
  have hl : lv_has ls 4 [(0, .ref (a 0)), (1, .int (nI (i))), (2, .ref (a 26))] := hl
  generalize hHe : s.heap = H at hP ⊢
  have hS : va_S A s.heap H [] := by rw [← hHe]; exact va_S.rf
  clear hHe
  generalize hLe : ([] : List Loc) = locs at hS ⊢
  clear hLe
  refine lv_aload_n hx hb dL_taken_0 rfl (lv_at hl 2 rfl) ?_
  refine lv_iconst (v := 0) hx hb dL_taken_1 (by decide) ?_
  refine lv_aload_n hx hb dL_taken_2 rfl (lv_at hl 0 rfl) ?_
  refine lv_iload_n hx hb dL_taken_3 rfl (lv_at hl 1 rfl) ?_
  refine zcVi (ci := 3) (q0 := 0) (wf := (fun (u : Unit) => (wL a cI cZ cL B R E (td) oo))) ksCA ⟨hx, hb, hml, hown, hts⟩ (zwCA hP hD hS hA) hK (c_X3_taken l D cI cZ a H.size (B) (R) (E) (td) (n) (i) (by first | assumption | omega) (by first | assumption | omega) (by first | assumption | omega)) (cwV 1 hts gL_taken_X3_taken rfl rfl rfl (by decide +kernel) ⟨Nat.le_of_ble_eq_true rfl, Nat.le_of_ble_eq_true rfl⟩) rfl rfl (by decide) (fun _ => zkCA _) rfl hl.1 rfl (Nat.le_of_ble_eq_true rfl) dL_taken_4 ⟨Nat.le_of_ble_eq_true rfl, Nat.le_of_ble_eq_true rfl⟩ (fun r4 u H locs hw hP hD hS => ?_)
  subst hw
  refine lv_i2l (v := ((B) 6 (i)).toInt64) hx hb dL_taken_7 rfl ?_
  refine zlst hx hb hK3 hP hD hS 26 rfl (wL a cI cZ cL B R E (td) (vp_updL oo 0 (B 6 i).toInt64)) rfl dL_taken_8 (fun H locs hP hD hS => ?_)
  refine lv_goto (tgt := 15) hx hb dL_taken_9 (by decide) ?_
  refine lv_iconst (v := 0) hx hb dL_taken_15 (by decide) ?_
  exact W.iret (v := 0) hx hb hr (fun t ht hW => ⟨⟨0, (), rfl, rfl, by rw [ht]; exact hP, va_K.moved hW.alike hK3, hD⟩, hS.F ht⟩) hS.2.2 dL_taken_16
set_option maxHeartbeats 4000000 in
set_option maxRecDepth 100000 in
theorem c_L_taken_k (l : Launch) (hfl : l.stackTraces = false) (D : va_G) (cI cZ cL : ClassId) (a : Nat → Nat) (sz : Nat) (B : Nat → Nat → Int32) (R : Nat → Nat → Int32) (E : Nat → Nat → Int32) (td : Int32) (vx : Int32) (oo : Nat → Int64) (h : vx < 0 ∨ ¬ vx < B 11 0) : Met l yL_taken wsL_taken ({ frames := 8, cells := 1, slots := 6, locals := 132 } : Room) (va_Pc [.ref (a 0), .int (vx), .ref (a 26)] (PreL D cI cZ cL (wL a cI cZ cL B R E (td) oo) sz)) (va_Qi (fun (r : Int32) (u : Unit) => r = 1) (fun (u : Unit) => PostL D cI cZ cL (va_A (wL a cI cZ cL B R E (td) oo) sz) (wL a cI cZ cL B R E (td) oo)) (va_A (wL a cI cZ cL B R E (td) oo) sz)) 1 6 (va_A (wL a cI cZ cL B R E (td) oo) sz) := by
  refine va_MetW (cc := cL_taken) (maxL := 4) (ret := (some .int)) (hh := [(0, 9, 12, 13)]) (by decide) rfl ?_
  intro p e s m args below meth c s₁ BB hml hv
  obtain ⟨rfl, ⟨hsz, hP, hK3, hD0⟩, hX, hZ⟩ := hv
  have hx := BB.exec
  have hb := BB.bytes
  have hr := BB.returns
  have hts := atoms_spec (ws := wsL_taken) BB.pre
  have hown : s.vm.findClass RL = some m.cls := findClass_of_methodNamed BB.named
  have hlocks := BB.notSynchronized
  have htab : c.exceptionTable.toList = tableOf [(0, 9, 12, 13)] := vx_table (x := yL_taken) BB (hts (.codeWith yL_taken cL_taken 4 (some .int) [(0, 9, 12, 13)]) List.mem_cons_self)
  clear BB
  subst hsz
  have hK := hK3.sub (tys' := tyl cI cZ) [0, 1] rfl
  have hD := hD0.self (sz := s.heap.size)
  clear hD0
  generalize hAe : va_A (wL a cI cZ cL B R E (td) oo) s.heap.size = A at hD hZ ⊢
  have hA : ∀ q : Nat, s.heap.size ≤ q → A q := fun q h => by rw [← hAe]; exact Or.inr h
  clear hAe
  have hl := lv_entry ([.ref (a 0), .int (vx), .ref (a 26)]) (n := 4) (Nat.le_of_ble_eq_true rfl)
  rw [lg_entry_eq]
  generalize (lg_sl ([.ref (a 0), .int (vx), .ref (a 26)]) ++ List.replicate (4 - (lg_sl ([.ref (a 0), .int (vx), .ref (a 26)])).length) Slot.unset).toArray = ls at hl ⊢
  have hl : lv_has ls 4 [(0, .ref (a 0)), (1, .int (vx)), (2, .ref (a 26))] := hl
  generalize hHe : s.heap = H at hP ⊢
  have hS : va_S A s.heap H [] := by rw [← hHe]; exact va_S.rf
  clear hHe
  generalize hLe : ([] : List Loc) = locs at hS ⊢
  clear hLe
  refine lv_aload_n hx hb dL_taken_0 rfl (lv_at hl 2 rfl) ?_
  refine lv_iconst (v := 0) hx hb dL_taken_1 (by decide) ?_
  refine lv_aload_n hx hb dL_taken_2 rfl (lv_at hl 0 rfl) ?_
  refine lv_iload_n hx hb dL_taken_3 rfl (lv_at hl 1 rfl) ?_
  refine zxV (ci := 3) (q0 := 0) ksCA ⟨hx, hb, hml, hown, hts⟩ (zwCA hP hD hS hA) hK hX hZ (x_X3_taken l hfl D cI cZ a H.size (B) (R) (E) (td) (vx) (h)) (cwV 1 hts gL_taken_X3_taken rfl rfl rfl (by decide +kernel) ⟨Nat.le_of_ble_eq_true rfl, Nat.le_of_ble_eq_true rfl⟩) rfl rfl (by decide) (zkCA _) rfl hl.1 rfl (Nat.le_of_ble_eq_true rfl) dL_taken_4 ⟨Nat.le_of_ble_eq_true rfl, Nat.le_of_ble_eq_true rfl⟩ (fun ce q9 H locs hP hD hS hce hcv hcl => ?_)
  refine vx_catch (E := eI) (name := eI) hown [] ⟨0, 9, 12, 13⟩ [] htab (fun z hz => nomatch hz) rfl (by decide) (hts (.classLink RL 13 "java/lang/IndexOutOfBoundsException") (by decide +kernel)) (va_Nw.use rfl (hX.1.2.1)) hce hcv hcl ?_
  refine lv_astore_n (lv' := [(3, .ref (q9)), (0, .ref (a 0)), (1, .int (vx)), (2, .ref (a 26))]) hx hb dL_taken_12 rfl hl (by decide) rfl (fun ls hl => ?_)
  refine lv_iconst (v := 1) hx hb dL_taken_13 (by decide) ?_
  exact W.iret (v := 1) hx hb hr (fun t ht hW => ⟨⟨1, (), rfl, rfl, by rw [ht]; exact hP, va_K.moved hW.alike hK3, hD⟩, hS.F ht⟩) hS.2.2 dL_taken_14
set_option maxHeartbeats 4000000 in
set_option maxRecDepth 100000 in
theorem c_L_disputed_0 (l : Launch) (D : va_G) (cI cZ cL : ClassId) (a : Nat → Nat) (sz : Nat) (B : Nat → Nat → Int32) (R : Nat → Nat → Int32) (E : Nat → Nat → Int32) (td : Int32) (n : Nat) (i : Nat) (oo : Nat → Int64) (hB : B 11 0 = nI n) (hn : n ≤ 40) (hbn : i < n) : Met l yL_disputed wsL_disputed ({ frames := 2, cells := 0, slots := 0, locals := 42 } : Room) (va_Pc [.ref (a 0), .int (nI (i)), .ref (a 26)] (PreL D cI cZ cL (wL a cI cZ cL B R E (td) oo) sz)) (va_Qi (fun (r : Int32) (u : Unit) => r = 0) (fun (u : Unit) => PostL D cI cZ cL (va_A (wL a cI cZ cL B R E (td) oo) sz) (wL a cI cZ cL B R E (td) (vp_updL oo 0 (B 8 i).toInt64))) (va_A (wL a cI cZ cL B R E (td) oo) sz)) 0 0 (va_A (wL a cI cZ cL B R E (td) oo) sz) := by
  refine va_MetW (cc := cL_disputed) (maxL := 4) (ret := (some .int)) (hh := [(0, 9, 12, 13)]) (by decide) rfl ?_
  intro p e s m args below meth c s₁ BB hml hv
  obtain ⟨rfl, ⟨hsz, hP, hK3, hD0⟩, hX, hZ⟩ := hv
  have hx := BB.exec
  have hb := BB.bytes
  have hr := BB.returns
  have hts := atoms_spec (ws := wsL_disputed) BB.pre
  have hown : s.vm.findClass RL = some m.cls := findClass_of_methodNamed BB.named
  have hlocks := BB.notSynchronized
  clear BB
  subst hsz
  have hK := hK3.sub (tys' := tyl cI cZ) [0, 1] rfl
  have hD := hD0.self (sz := s.heap.size)
  clear hD0
  generalize hAe : va_A (wL a cI cZ cL B R E (td) oo) s.heap.size = A at hD hZ ⊢
  have hA : ∀ q : Nat, s.heap.size ≤ q → A q := fun q h => by rw [← hAe]; exact Or.inr h
  clear hAe
  have hl := lv_entry ([.ref (a 0), .int (nI (i)), .ref (a 26)]) (n := 4) (Nat.le_of_ble_eq_true rfl)
  rw [lg_entry_eq]
  generalize (lg_sl ([.ref (a 0), .int (nI (i)), .ref (a 26)]) ++ List.replicate (4 - (lg_sl ([.ref (a 0), .int (nI (i)), .ref (a 26)])).length) Slot.unset).toArray = ls at hl ⊢
  have hl : lv_has ls 4 [(0, .ref (a 0)), (1, .int (nI (i))), (2, .ref (a 26))] := hl
  generalize hHe : s.heap = H at hP ⊢
  have hS : va_S A s.heap H [] := by rw [← hHe]; exact va_S.rf
  clear hHe
  generalize hLe : ([] : List Loc) = locs at hS ⊢
  clear hLe
  refine lv_aload_n hx hb dL_disputed_0 rfl (lv_at hl 2 rfl) ?_
  refine lv_iconst (v := 0) hx hb dL_disputed_1 (by decide) ?_
  refine lv_aload_n hx hb dL_disputed_2 rfl (lv_at hl 0 rfl) ?_
  refine lv_iload_n hx hb dL_disputed_3 rfl (lv_at hl 1 rfl) ?_
  refine zcVi (ci := 3) (q0 := 0) (wf := (fun (u : Unit) => (wL a cI cZ cL B R E (td) oo))) ksCA ⟨hx, hb, hml, hown, hts⟩ (zwCA hP hD hS hA) hK (c_X3_disputed l D cI cZ a H.size (B) (R) (E) (td) (n) (i) (by first | assumption | omega) (by first | assumption | omega) (by first | assumption | omega)) (cwV 1 hts gL_disputed_X3_disputed rfl rfl rfl (by decide +kernel) ⟨Nat.le_of_ble_eq_true rfl, Nat.le_of_ble_eq_true rfl⟩) rfl rfl (by decide) (fun _ => zkCA _) rfl hl.1 rfl (Nat.le_of_ble_eq_true rfl) dL_disputed_4 ⟨Nat.le_of_ble_eq_true rfl, Nat.le_of_ble_eq_true rfl⟩ (fun r4 u H locs hw hP hD hS => ?_)
  subst hw
  refine lv_i2l (v := ((B) 8 (i)).toInt64) hx hb dL_disputed_7 rfl ?_
  refine zlst hx hb hK3 hP hD hS 26 rfl (wL a cI cZ cL B R E (td) (vp_updL oo 0 (B 8 i).toInt64)) rfl dL_disputed_8 (fun H locs hP hD hS => ?_)
  refine lv_goto (tgt := 15) hx hb dL_disputed_9 (by decide) ?_
  refine lv_iconst (v := 0) hx hb dL_disputed_15 (by decide) ?_
  exact W.iret (v := 0) hx hb hr (fun t ht hW => ⟨⟨0, (), rfl, rfl, by rw [ht]; exact hP, va_K.moved hW.alike hK3, hD⟩, hS.F ht⟩) hS.2.2 dL_disputed_16
set_option maxHeartbeats 4000000 in
set_option maxRecDepth 100000 in
theorem c_L_disputed_k (l : Launch) (hfl : l.stackTraces = false) (D : va_G) (cI cZ cL : ClassId) (a : Nat → Nat) (sz : Nat) (B : Nat → Nat → Int32) (R : Nat → Nat → Int32) (E : Nat → Nat → Int32) (td : Int32) (vx : Int32) (oo : Nat → Int64) (h : vx < 0 ∨ ¬ vx < B 11 0) : Met l yL_disputed wsL_disputed ({ frames := 8, cells := 1, slots := 6, locals := 132 } : Room) (va_Pc [.ref (a 0), .int (vx), .ref (a 26)] (PreL D cI cZ cL (wL a cI cZ cL B R E (td) oo) sz)) (va_Qi (fun (r : Int32) (u : Unit) => r = 1) (fun (u : Unit) => PostL D cI cZ cL (va_A (wL a cI cZ cL B R E (td) oo) sz) (wL a cI cZ cL B R E (td) oo)) (va_A (wL a cI cZ cL B R E (td) oo) sz)) 1 6 (va_A (wL a cI cZ cL B R E (td) oo) sz) := by
  refine va_MetW (cc := cL_disputed) (maxL := 4) (ret := (some .int)) (hh := [(0, 9, 12, 13)]) (by decide) rfl ?_
  intro p e s m args below meth c s₁ BB hml hv
  obtain ⟨rfl, ⟨hsz, hP, hK3, hD0⟩, hX, hZ⟩ := hv
  have hx := BB.exec
  have hb := BB.bytes
  have hr := BB.returns
  have hts := atoms_spec (ws := wsL_disputed) BB.pre
  have hown : s.vm.findClass RL = some m.cls := findClass_of_methodNamed BB.named
  have hlocks := BB.notSynchronized
  have htab : c.exceptionTable.toList = tableOf [(0, 9, 12, 13)] := vx_table (x := yL_disputed) BB (hts (.codeWith yL_disputed cL_disputed 4 (some .int) [(0, 9, 12, 13)]) List.mem_cons_self)
  clear BB
  subst hsz
  have hK := hK3.sub (tys' := tyl cI cZ) [0, 1] rfl
  have hD := hD0.self (sz := s.heap.size)
  clear hD0
  generalize hAe : va_A (wL a cI cZ cL B R E (td) oo) s.heap.size = A at hD hZ ⊢
  have hA : ∀ q : Nat, s.heap.size ≤ q → A q := fun q h => by rw [← hAe]; exact Or.inr h
  clear hAe
  have hl := lv_entry ([.ref (a 0), .int (vx), .ref (a 26)]) (n := 4) (Nat.le_of_ble_eq_true rfl)
  rw [lg_entry_eq]
  generalize (lg_sl ([.ref (a 0), .int (vx), .ref (a 26)]) ++ List.replicate (4 - (lg_sl ([.ref (a 0), .int (vx), .ref (a 26)])).length) Slot.unset).toArray = ls at hl ⊢
  have hl : lv_has ls 4 [(0, .ref (a 0)), (1, .int (vx)), (2, .ref (a 26))] := hl
  generalize hHe : s.heap = H at hP ⊢
  have hS : va_S A s.heap H [] := by rw [← hHe]; exact va_S.rf
  clear hHe
  generalize hLe : ([] : List Loc) = locs at hS ⊢
  clear hLe
  refine lv_aload_n hx hb dL_disputed_0 rfl (lv_at hl 2 rfl) ?_
  refine lv_iconst (v := 0) hx hb dL_disputed_1 (by decide) ?_
  refine lv_aload_n hx hb dL_disputed_2 rfl (lv_at hl 0 rfl) ?_
  refine lv_iload_n hx hb dL_disputed_3 rfl (lv_at hl 1 rfl) ?_
  refine zxV (ci := 3) (q0 := 0) ksCA ⟨hx, hb, hml, hown, hts⟩ (zwCA hP hD hS hA) hK hX hZ (x_X3_disputed l hfl D cI cZ a H.size (B) (R) (E) (td) (vx) (h)) (cwV 1 hts gL_disputed_X3_disputed rfl rfl rfl (by decide +kernel) ⟨Nat.le_of_ble_eq_true rfl, Nat.le_of_ble_eq_true rfl⟩) rfl rfl (by decide) (zkCA _) rfl hl.1 rfl (Nat.le_of_ble_eq_true rfl) dL_disputed_4 ⟨Nat.le_of_ble_eq_true rfl, Nat.le_of_ble_eq_true rfl⟩ (fun ce q9 H locs hP hD hS hce hcv hcl => ?_)
  refine vx_catch (E := eI) (name := eI) hown [] ⟨0, 9, 12, 13⟩ [] htab (fun z hz => nomatch hz) rfl (by decide) (hts (.classLink RL 13 "java/lang/IndexOutOfBoundsException") (by decide +kernel)) (va_Nw.use rfl (hX.1.2.1)) hce hcv hcl ?_
  refine lv_astore_n (lv' := [(3, .ref (q9)), (0, .ref (a 0)), (1, .int (vx)), (2, .ref (a 26))]) hx hb dL_disputed_12 rfl hl (by decide) rfl (fun ls hl => ?_)
  refine lv_iconst (v := 1) hx hb dL_disputed_13 (by decide) ?_
  exact W.iret (v := 1) hx hb hr (fun t ht hW => ⟨⟨1, (), rfl, rfl, by rw [ht]; exact hP, va_K.moved hW.alike hK3, hD⟩, hS.F ht⟩) hS.2.2 dL_disputed_14
set_option maxHeartbeats 4000000 in
set_option maxRecDepth 100000 in
theorem c_L_writtenOff_0 (l : Launch) (D : va_G) (cI cZ cL : ClassId) (a : Nat → Nat) (sz : Nat) (B : Nat → Nat → Int32) (R : Nat → Nat → Int32) (E : Nat → Nat → Int32) (td : Int32) (n : Nat) (i : Nat) (oo : Nat → Int64) (hB : B 11 0 = nI n) (hn : n ≤ 40) (hbn : i < n) : Met l yL_writtenOff wsL_writtenOff ({ frames := 2, cells := 0, slots := 0, locals := 42 } : Room) (va_Pc [.ref (a 0), .int (nI (i)), .ref (a 26)] (PreL D cI cZ cL (wL a cI cZ cL B R E (td) oo) sz)) (va_Qi (fun (r : Int32) (u : Unit) => r = 0) (fun (u : Unit) => PostL D cI cZ cL (va_A (wL a cI cZ cL B R E (td) oo) sz) (wL a cI cZ cL B R E (td) (vp_updL oo 0 (B 10 i).toInt64))) (va_A (wL a cI cZ cL B R E (td) oo) sz)) 0 0 (va_A (wL a cI cZ cL B R E (td) oo) sz) := by
  refine va_MetW (cc := cL_writtenOff) (maxL := 4) (ret := (some .int)) (hh := [(0, 9, 12, 13)]) (by decide) rfl ?_
  intro p e s m args below meth c s₁ BB hml hv
  obtain ⟨rfl, ⟨hsz, hP, hK3, hD0⟩, hX, hZ⟩ := hv
  have hx := BB.exec
  have hb := BB.bytes
  have hr := BB.returns
  have hts := atoms_spec (ws := wsL_writtenOff) BB.pre
  have hown : s.vm.findClass RL = some m.cls := findClass_of_methodNamed BB.named
  have hlocks := BB.notSynchronized
  clear BB
  subst hsz
  have hK := hK3.sub (tys' := tyl cI cZ) [0, 1] rfl
  have hD := hD0.self (sz := s.heap.size)
  clear hD0
  generalize hAe : va_A (wL a cI cZ cL B R E (td) oo) s.heap.size = A at hD hZ ⊢
  have hA : ∀ q : Nat, s.heap.size ≤ q → A q := fun q h => by rw [← hAe]; exact Or.inr h
  clear hAe
  have hl := lv_entry ([.ref (a 0), .int (nI (i)), .ref (a 26)]) (n := 4) (Nat.le_of_ble_eq_true rfl)
  rw [lg_entry_eq]
  generalize (lg_sl ([.ref (a 0), .int (nI (i)), .ref (a 26)]) ++ List.replicate (4 - (lg_sl ([.ref (a 0), .int (nI (i)), .ref (a 26)])).length) Slot.unset).toArray = ls at hl ⊢
  have hl : lv_has ls 4 [(0, .ref (a 0)), (1, .int (nI (i))), (2, .ref (a 26))] := hl
  generalize hHe : s.heap = H at hP ⊢
  have hS : va_S A s.heap H [] := by rw [← hHe]; exact va_S.rf
  clear hHe
  generalize hLe : ([] : List Loc) = locs at hS ⊢
  clear hLe
  refine lv_aload_n hx hb dL_writtenOff_0 rfl (lv_at hl 2 rfl) ?_
  refine lv_iconst (v := 0) hx hb dL_writtenOff_1 (by decide) ?_
  refine lv_aload_n hx hb dL_writtenOff_2 rfl (lv_at hl 0 rfl) ?_
  refine lv_iload_n hx hb dL_writtenOff_3 rfl (lv_at hl 1 rfl) ?_
  refine zcVi (ci := 3) (q0 := 0) (wf := (fun (u : Unit) => (wL a cI cZ cL B R E (td) oo))) ksCA ⟨hx, hb, hml, hown, hts⟩ (zwCA hP hD hS hA) hK (c_X3_writtenOff l D cI cZ a H.size (B) (R) (E) (td) (n) (i) (by first | assumption | omega) (by first | assumption | omega) (by first | assumption | omega)) (cwV 1 hts gL_writtenOff_X3_writtenOff rfl rfl rfl (by decide +kernel) ⟨Nat.le_of_ble_eq_true rfl, Nat.le_of_ble_eq_true rfl⟩) rfl rfl (by decide) (fun _ => zkCA _) rfl hl.1 rfl (Nat.le_of_ble_eq_true rfl) dL_writtenOff_4 ⟨Nat.le_of_ble_eq_true rfl, Nat.le_of_ble_eq_true rfl⟩ (fun r4 u H locs hw hP hD hS => ?_)
  subst hw
  refine lv_i2l (v := ((B) 10 (i)).toInt64) hx hb dL_writtenOff_7 rfl ?_
  refine zlst hx hb hK3 hP hD hS 26 rfl (wL a cI cZ cL B R E (td) (vp_updL oo 0 (B 10 i).toInt64)) rfl dL_writtenOff_8 (fun H locs hP hD hS => ?_)
  refine lv_goto (tgt := 15) hx hb dL_writtenOff_9 (by decide) ?_
  refine lv_iconst (v := 0) hx hb dL_writtenOff_15 (by decide) ?_
  exact W.iret (v := 0) hx hb hr (fun t ht hW => ⟨⟨0, (), rfl, rfl, by rw [ht]; exact hP, va_K.moved hW.alike hK3, hD⟩, hS.F ht⟩) hS.2.2 dL_writtenOff_16
set_option maxHeartbeats 4000000 in
set_option maxRecDepth 100000 in
theorem c_L_writtenOff_k (l : Launch) (hfl : l.stackTraces = false) (D : va_G) (cI cZ cL : ClassId) (a : Nat → Nat) (sz : Nat) (B : Nat → Nat → Int32) (R : Nat → Nat → Int32) (E : Nat → Nat → Int32) (td : Int32) (vx : Int32) (oo : Nat → Int64) (h : vx < 0 ∨ ¬ vx < B 11 0) : Met l yL_writtenOff wsL_writtenOff ({ frames := 8, cells := 1, slots := 6, locals := 132 } : Room) (va_Pc [.ref (a 0), .int (vx), .ref (a 26)] (PreL D cI cZ cL (wL a cI cZ cL B R E (td) oo) sz)) (va_Qi (fun (r : Int32) (u : Unit) => r = 1) (fun (u : Unit) => PostL D cI cZ cL (va_A (wL a cI cZ cL B R E (td) oo) sz) (wL a cI cZ cL B R E (td) oo)) (va_A (wL a cI cZ cL B R E (td) oo) sz)) 1 6 (va_A (wL a cI cZ cL B R E (td) oo) sz) := by
  refine va_MetW (cc := cL_writtenOff) (maxL := 4) (ret := (some .int)) (hh := [(0, 9, 12, 13)]) (by decide) rfl ?_
  intro p e s m args below meth c s₁ BB hml hv
  obtain ⟨rfl, ⟨hsz, hP, hK3, hD0⟩, hX, hZ⟩ := hv
  have hx := BB.exec
  have hb := BB.bytes
  have hr := BB.returns
  have hts := atoms_spec (ws := wsL_writtenOff) BB.pre
  have hown : s.vm.findClass RL = some m.cls := findClass_of_methodNamed BB.named
  have hlocks := BB.notSynchronized
  have htab : c.exceptionTable.toList = tableOf [(0, 9, 12, 13)] := vx_table (x := yL_writtenOff) BB (hts (.codeWith yL_writtenOff cL_writtenOff 4 (some .int) [(0, 9, 12, 13)]) List.mem_cons_self)
  clear BB
  subst hsz
  have hK := hK3.sub (tys' := tyl cI cZ) [0, 1] rfl
  have hD := hD0.self (sz := s.heap.size)
  clear hD0
  generalize hAe : va_A (wL a cI cZ cL B R E (td) oo) s.heap.size = A at hD hZ ⊢
  have hA : ∀ q : Nat, s.heap.size ≤ q → A q := fun q h => by rw [← hAe]; exact Or.inr h
  clear hAe
  have hl := lv_entry ([.ref (a 0), .int (vx), .ref (a 26)]) (n := 4) (Nat.le_of_ble_eq_true rfl)
  rw [lg_entry_eq]
  generalize (lg_sl ([.ref (a 0), .int (vx), .ref (a 26)]) ++ List.replicate (4 - (lg_sl ([.ref (a 0), .int (vx), .ref (a 26)])).length) Slot.unset).toArray = ls at hl ⊢
  have hl : lv_has ls 4 [(0, .ref (a 0)), (1, .int (vx)), (2, .ref (a 26))] := hl
  generalize hHe : s.heap = H at hP ⊢
  have hS : va_S A s.heap H [] := by rw [← hHe]; exact va_S.rf
  clear hHe
  generalize hLe : ([] : List Loc) = locs at hS ⊢
  clear hLe
  refine lv_aload_n hx hb dL_writtenOff_0 rfl (lv_at hl 2 rfl) ?_
  refine lv_iconst (v := 0) hx hb dL_writtenOff_1 (by decide) ?_
  refine lv_aload_n hx hb dL_writtenOff_2 rfl (lv_at hl 0 rfl) ?_
  refine lv_iload_n hx hb dL_writtenOff_3 rfl (lv_at hl 1 rfl) ?_
  refine zxV (ci := 3) (q0 := 0) ksCA ⟨hx, hb, hml, hown, hts⟩ (zwCA hP hD hS hA) hK hX hZ (x_X3_writtenOff l hfl D cI cZ a H.size (B) (R) (E) (td) (vx) (h)) (cwV 1 hts gL_writtenOff_X3_writtenOff rfl rfl rfl (by decide +kernel) ⟨Nat.le_of_ble_eq_true rfl, Nat.le_of_ble_eq_true rfl⟩) rfl rfl (by decide) (zkCA _) rfl hl.1 rfl (Nat.le_of_ble_eq_true rfl) dL_writtenOff_4 ⟨Nat.le_of_ble_eq_true rfl, Nat.le_of_ble_eq_true rfl⟩ (fun ce q9 H locs hP hD hS hce hcv hcl => ?_)
  refine vx_catch (E := eI) (name := eI) hown [] ⟨0, 9, 12, 13⟩ [] htab (fun z hz => nomatch hz) rfl (by decide) (hts (.classLink RL 13 "java/lang/IndexOutOfBoundsException") (by decide +kernel)) (va_Nw.use rfl (hX.1.2.1)) hce hcv hcl ?_
  refine lv_astore_n (lv' := [(3, .ref (q9)), (0, .ref (a 0)), (1, .int (vx)), (2, .ref (a 26))]) hx hb dL_writtenOff_12 rfl hl (by decide) rfl (fun ls hl => ?_)
  refine lv_iconst (v := 1) hx hb dL_writtenOff_13 (by decide) ?_
  exact W.iret (v := 1) hx hb hr (fun t ht hW => ⟨⟨1, (), rfl, rfl, by rw [ht]; exact hP, va_K.moved hW.alike hK3, hD⟩, hS.F ht⟩) hS.2.2 dL_writtenOff_14
set_option maxHeartbeats 4000000 in
set_option maxRecDepth 100000 in
theorem c_L_openOf_0 (l : Launch) (D : va_G) (cI cZ cL : ClassId) (a : Nat → Nat) (sz : Nat) (B : Nat → Nat → Int32) (R : Nat → Nat → Int32) (E : Nat → Nat → Int32) (td : Int32) (n : Nat) (cu : Int32) (oo : Nat → Int64) (hB : B 11 0 = nI n) (hn : n ≤ 40) (h1 : ¬ cu < 0) (h2 : cu < 8) : Met l yL_openOf wsL_openOf ({ frames := 2, cells := 0, slots := 0, locals := 44 } : Room) (va_Pc [.ref (a 0), .int (cu), .ref (a 26)] (PreL D cI cZ cL (wL a cI cZ cL B R E (td) oo) sz)) (va_Qi (fun (r : Int32) (u : Unit) => r = 0) (fun (u : Unit) => PostL D cI cZ cL (va_A (wL a cI cZ cL B R E (td) oo) sz) (wL a cI cZ cL B R E (td) (vp_updL oo 0 (oof B cu n).toInt64))) (va_A (wL a cI cZ cL B R E (td) oo) sz)) 0 0 (va_A (wL a cI cZ cL B R E (td) oo) sz) := by
  refine va_MetW (cc := cL_openOf) (maxL := 4) (ret := (some .int)) (hh := [(0, 9, 12, 13)]) (by decide) rfl ?_
  intro p e s m args below meth c s₁ BB hml hv
  obtain ⟨rfl, ⟨hsz, hP, hK3, hD0⟩, hX, hZ⟩ := hv
  have hx := BB.exec
  have hb := BB.bytes
  have hr := BB.returns
  have hts := atoms_spec (ws := wsL_openOf) BB.pre
  have hown : s.vm.findClass RL = some m.cls := findClass_of_methodNamed BB.named
  have hlocks := BB.notSynchronized
  clear BB
  subst hsz
  have hK := hK3.sub (tys' := tyl cI cZ) [0, 1] rfl
  have hD := hD0.self (sz := s.heap.size)
  clear hD0
  generalize hAe : va_A (wL a cI cZ cL B R E (td) oo) s.heap.size = A at hD hZ ⊢
  have hA : ∀ q : Nat, s.heap.size ≤ q → A q := fun q h => by rw [← hAe]; exact Or.inr h
  clear hAe
  have hl := lv_entry ([.ref (a 0), .int (cu), .ref (a 26)]) (n := 4) (Nat.le_of_ble_eq_true rfl)
  rw [lg_entry_eq]
  generalize (lg_sl ([.ref (a 0), .int (cu), .ref (a 26)]) ++ List.replicate (4 - (lg_sl ([.ref (a 0), .int (cu), .ref (a 26)])).length) Slot.unset).toArray = ls at hl ⊢
  have hl : lv_has ls 4 [(0, .ref (a 0)), (1, .int (cu)), (2, .ref (a 26))] := hl
  generalize hHe : s.heap = H at hP ⊢
  have hS : va_S A s.heap H [] := by rw [← hHe]; exact va_S.rf
  clear hHe
  generalize hLe : ([] : List Loc) = locs at hS ⊢
  clear hLe
  refine lv_aload_n hx hb dL_openOf_0 rfl (lv_at hl 2 rfl) ?_
  refine lv_iconst (v := 0) hx hb dL_openOf_1 (by decide) ?_
  refine lv_aload_n hx hb dL_openOf_2 rfl (lv_at hl 0 rfl) ?_
  refine lv_iload_n hx hb dL_openOf_3 rfl (lv_at hl 1 rfl) ?_
  refine zcVi (ci := 3) (q0 := 0) (wf := (fun (u : Unit) => (wL a cI cZ cL B R E (td) oo))) ksCA ⟨hx, hb, hml, hown, hts⟩ (zwCA hP hD hS hA) hK (c_X3_openOf l D cI cZ a H.size (B) (R) (E) (td) (n) (cu) (by first | assumption | omega) (by first | assumption | omega) (by first | assumption | omega) (by first | assumption | omega)) (cwV 1 hts gL_openOf_X3_openOf rfl rfl rfl (by decide +kernel) ⟨Nat.le_of_ble_eq_true rfl, Nat.le_of_ble_eq_true rfl⟩) rfl rfl (by decide) (fun _ => zkCA _) rfl hl.1 rfl (Nat.le_of_ble_eq_true rfl) dL_openOf_4 ⟨Nat.le_of_ble_eq_true rfl, Nat.le_of_ble_eq_true rfl⟩ (fun r4 u H locs hw hP hD hS => ?_)
  subst hw
  refine lv_i2l (v := (oof (B) (cu) n).toInt64) hx hb dL_openOf_7 rfl ?_
  refine zlst hx hb hK3 hP hD hS 26 rfl (wL a cI cZ cL B R E (td) (vp_updL oo 0 (oof B cu n).toInt64)) rfl dL_openOf_8 (fun H locs hP hD hS => ?_)
  refine lv_goto (tgt := 15) hx hb dL_openOf_9 (by decide) ?_
  refine lv_iconst (v := 0) hx hb dL_openOf_15 (by decide) ?_
  exact W.iret (v := 0) hx hb hr (fun t ht hW => ⟨⟨0, (), rfl, rfl, by rw [ht]; exact hP, va_K.moved hW.alike hK3, hD⟩, hS.F ht⟩) hS.2.2 dL_openOf_16
set_option maxHeartbeats 4000000 in
set_option maxRecDepth 100000 in
theorem c_L_openOf_k (l : Launch) (hfl : l.stackTraces = false) (D : va_G) (cI cZ cL : ClassId) (a : Nat → Nat) (sz : Nat) (B : Nat → Nat → Int32) (R : Nat → Nat → Int32) (E : Nat → Nat → Int32) (td : Int32) (cu : Int32) (oo : Nat → Int64) (h : cu < 0 ∨ ¬ cu < 8) : Met l yL_openOf wsL_openOf ({ frames := 8, cells := 1, slots := 6, locals := 133 } : Room) (va_Pc [.ref (a 0), .int (cu), .ref (a 26)] (PreL D cI cZ cL (wL a cI cZ cL B R E (td) oo) sz)) (va_Qi (fun (r : Int32) (u : Unit) => r = 1) (fun (u : Unit) => PostL D cI cZ cL (va_A (wL a cI cZ cL B R E (td) oo) sz) (wL a cI cZ cL B R E (td) oo)) (va_A (wL a cI cZ cL B R E (td) oo) sz)) 1 6 (va_A (wL a cI cZ cL B R E (td) oo) sz) := by
  refine va_MetW (cc := cL_openOf) (maxL := 4) (ret := (some .int)) (hh := [(0, 9, 12, 13)]) (by decide) rfl ?_
  intro p e s m args below meth c s₁ BB hml hv
  obtain ⟨rfl, ⟨hsz, hP, hK3, hD0⟩, hX, hZ⟩ := hv
  have hx := BB.exec
  have hb := BB.bytes
  have hr := BB.returns
  have hts := atoms_spec (ws := wsL_openOf) BB.pre
  have hown : s.vm.findClass RL = some m.cls := findClass_of_methodNamed BB.named
  have hlocks := BB.notSynchronized
  have htab : c.exceptionTable.toList = tableOf [(0, 9, 12, 13)] := vx_table (x := yL_openOf) BB (hts (.codeWith yL_openOf cL_openOf 4 (some .int) [(0, 9, 12, 13)]) List.mem_cons_self)
  clear BB
  subst hsz
  have hK := hK3.sub (tys' := tyl cI cZ) [0, 1] rfl
  have hD := hD0.self (sz := s.heap.size)
  clear hD0
  generalize hAe : va_A (wL a cI cZ cL B R E (td) oo) s.heap.size = A at hD hZ ⊢
  have hA : ∀ q : Nat, s.heap.size ≤ q → A q := fun q h => by rw [← hAe]; exact Or.inr h
  clear hAe
  have hl := lv_entry ([.ref (a 0), .int (cu), .ref (a 26)]) (n := 4) (Nat.le_of_ble_eq_true rfl)
  rw [lg_entry_eq]
  generalize (lg_sl ([.ref (a 0), .int (cu), .ref (a 26)]) ++ List.replicate (4 - (lg_sl ([.ref (a 0), .int (cu), .ref (a 26)])).length) Slot.unset).toArray = ls at hl ⊢
  have hl : lv_has ls 4 [(0, .ref (a 0)), (1, .int (cu)), (2, .ref (a 26))] := hl
  generalize hHe : s.heap = H at hP ⊢
  have hS : va_S A s.heap H [] := by rw [← hHe]; exact va_S.rf
  clear hHe
  generalize hLe : ([] : List Loc) = locs at hS ⊢
  clear hLe
  refine lv_aload_n hx hb dL_openOf_0 rfl (lv_at hl 2 rfl) ?_
  refine lv_iconst (v := 0) hx hb dL_openOf_1 (by decide) ?_
  refine lv_aload_n hx hb dL_openOf_2 rfl (lv_at hl 0 rfl) ?_
  refine lv_iload_n hx hb dL_openOf_3 rfl (lv_at hl 1 rfl) ?_
  refine zxV (ci := 3) (q0 := 0) ksCA ⟨hx, hb, hml, hown, hts⟩ (zwCA hP hD hS hA) hK hX hZ (x_X3_openOf l hfl D cI cZ a H.size (B) (R) (E) (td) (cu) (h)) (cwV 1 hts gL_openOf_X3_openOf rfl rfl rfl (by decide +kernel) ⟨Nat.le_of_ble_eq_true rfl, Nat.le_of_ble_eq_true rfl⟩) rfl rfl (by decide) (zkCA _) rfl hl.1 rfl (Nat.le_of_ble_eq_true rfl) dL_openOf_4 ⟨Nat.le_of_ble_eq_true rfl, Nat.le_of_ble_eq_true rfl⟩ (fun ce q9 H locs hP hD hS hce hcv hcl => ?_)
  refine vx_catch (E := eI) (name := eI) hown [] ⟨0, 9, 12, 13⟩ [] htab (fun z hz => nomatch hz) rfl (by decide) (hts (.classLink RL 13 "java/lang/IndexOutOfBoundsException") (by decide +kernel)) (va_Nw.use rfl (hX.1.2.1)) hce hcv hcl ?_
  refine lv_astore_n (lv' := [(3, .ref (q9)), (0, .ref (a 0)), (1, .int (cu)), (2, .ref (a 26))]) hx hb dL_openOf_12 rfl hl (by decide) rfl (fun ls hl => ?_)
  refine lv_iconst (v := 1) hx hb dL_openOf_13 (by decide) ?_
  exact W.iret (v := 1) hx hb hr (fun t ht hW => ⟨⟨1, (), rfl, rfl, by rw [ht]; exact hP, va_K.moved hW.alike hK3, hD⟩, hS.F ht⟩) hS.2.2 dL_openOf_14
set_option maxHeartbeats 4000000 in
set_option maxRecDepth 100000 in
theorem c_L_setFor_0 (l : Launch) (D : va_G) (cI cZ cL : ClassId) (a : Nat → Nat) (sz : Nat) (B : Nat → Nat → Int32) (R : Nat → Nat → Int32) (E : Nat → Nat → Int32) (td : Int32) (n : Nat) (cu : Int32) (sm : Int32) (pl : Nat) (oo : Nat → Int64) (hB : B 11 0 = nI n) (hn : n ≤ 40) (h1 : ¬ cu < 0) (h2 : cu < 8) (h3 : 1 ≤ sm) (h4 : pl < 3) : Met l yL_setFor wsL_setFor ({ frames := 5, cells := 0, slots := 0, locals := 114 } : Room) (va_Pc [.ref (a 0), .int (cu), .int (sm), .int (nI (pl)), .ref (a 26)] (PreL D cI cZ cL (wL a cI cZ cL B R E (td) oo) sz)) (va_Qi (fun (r : Int32) (u : Unit) => r = 0) (fun (u : Unit) => PostL D cI cZ cL (va_A (wL a cI cZ cL B R E (td) oo) sz) (wL a cI cZ cL B R (cesE B E cu sm td n) (td) (vp_updL oo 0 (cesE B E cu sm td n 2 pl).toInt64))) (va_A (wL a cI cZ cL B R E (td) oo) sz)) 0 0 (va_A (wL a cI cZ cL B R E (td) oo) sz) := by
  refine va_MetW (cc := cL_setFor) (maxL := 6) (ret := (some .int)) (hh := [(0, 12, 15, 13), (0, 12, 19, 15)]) (by decide) rfl ?_
  intro p e s m args below meth c s₁ BB hml hv
  obtain ⟨rfl, ⟨hsz, hP, hK3, hD0⟩, hX, hZ⟩ := hv
  have hx := BB.exec
  have hb := BB.bytes
  have hr := BB.returns
  have hts := atoms_spec (ws := wsL_setFor) BB.pre
  have hown : s.vm.findClass RL = some m.cls := findClass_of_methodNamed BB.named
  have hlocks := BB.notSynchronized
  clear BB
  subst hsz
  have hK := hK3.sub (tys' := tyl cI cZ) [0, 1] rfl
  have hD := hD0.self (sz := s.heap.size)
  clear hD0
  generalize hAe : va_A (wL a cI cZ cL B R E (td) oo) s.heap.size = A at hD hZ ⊢
  have hA : ∀ q : Nat, s.heap.size ≤ q → A q := fun q h => by rw [← hAe]; exact Or.inr h
  clear hAe
  have hl := lv_entry ([.ref (a 0), .int (cu), .int (sm), .int (nI (pl)), .ref (a 26)]) (n := 6) (Nat.le_of_ble_eq_true rfl)
  rw [lg_entry_eq]
  generalize (lg_sl ([.ref (a 0), .int (cu), .int (sm), .int (nI (pl)), .ref (a 26)]) ++ List.replicate (6 - (lg_sl ([.ref (a 0), .int (cu), .int (sm), .int (nI (pl)), .ref (a 26)])).length) Slot.unset).toArray = ls at hl ⊢
  have hl : lv_has ls 6 [(0, .ref (a 0)), (1, .int (cu)), (2, .int (sm)), (3, .int (nI (pl))), (4, .ref (a 26))] := hl
  generalize hHe : s.heap = H at hP ⊢
  have hS : va_S A s.heap H [] := by rw [← hHe]; exact va_S.rf
  clear hHe
  generalize hLe : ([] : List Loc) = locs at hS ⊢
  clear hLe
  refine lv_aload hx hb dL_setFor_0 (lv_at hl 4 rfl) ?_
  refine lv_iconst (v := 0) hx hb dL_setFor_2 (by decide) ?_
  refine lv_aload_n hx hb dL_setFor_3 rfl (lv_at hl 0 rfl) ?_
  refine lv_iload_n hx hb dL_setFor_4 rfl (lv_at hl 1 rfl) ?_
  refine lv_iload_n hx hb dL_setFor_5 rfl (lv_at hl 2 rfl) ?_
  refine lv_iload_n hx hb dL_setFor_6 rfl (lv_at hl 3 rfl) ?_
  refine zcVi (ci := 3) (q0 := 0) (wf := (fun (u : Nat → Nat → Int32) => (wL a cI cZ cL B R u (td) oo))) ksCA ⟨hx, hb, hml, hown, hts⟩ (zwCA hP hD hS hA) hK (c_X3_setFor l D cI cZ a H.size (B) (R) (E) (td) (n) (cu) (sm) (pl) (by first | assumption | omega) (by first | assumption | omega) (by first | assumption | omega) (by first | assumption | omega) (by first | assumption | omega) (by first | assumption | omega)) (cwV 3 hts gL_setFor_X3_setFor rfl rfl rfl (by decide +kernel) ⟨Nat.le_of_ble_eq_true rfl, Nat.le_of_ble_eq_true rfl⟩) rfl rfl (by decide) (fun _ => zkCA _) rfl hl.1 rfl (Nat.le_of_ble_eq_true rfl) dL_setFor_7 ⟨Nat.le_of_ble_eq_true rfl, Nat.le_of_ble_eq_true rfl⟩ (fun r7 u H locs hw hP hD hS => ?_)
  obtain ⟨rfl, rfl⟩ := hw
  have hP : va_P D vwCl (wL a cI cZ cL B R (cesE (B) (E) (cu) (sm) (td) n) (td) oo) H := hP
  have hD : va_D A (wL a cI cZ cL B R (cesE (B) (E) (cu) (sm) (td) n) (td) oo) := hD
  refine lv_i2l (v := (cesE (B) (E) (cu) (sm) (td) n 2 (pl)).toInt64) hx hb dL_setFor_10 rfl ?_
  refine zlst hx hb hK3 hP hD hS 26 rfl (wL a cI cZ cL B R (cesE B E cu sm td n) (td) (vp_updL oo 0 (cesE B E cu sm td n 2 pl).toInt64)) rfl dL_setFor_11 (fun H locs hP hD hS => ?_)
  refine lv_goto (tgt := 23) hx hb dL_setFor_12 (by decide) ?_
  refine lv_iconst (v := 0) hx hb dL_setFor_23 (by decide) ?_
  exact W.iret (v := 0) hx hb hr (fun t ht hW => ⟨⟨0, (), rfl, rfl, by rw [ht]; exact hP, va_K.moved hW.alike hK3, hD⟩, hS.F ht⟩) hS.2.2 dL_setFor_24
set_option maxHeartbeats 4000000 in
set_option maxRecDepth 100000 in
theorem c_L_setFor_k (l : Launch) (hfl : l.stackTraces = false) (D : va_G) (cI cZ cL : ClassId) (a : Nat → Nat) (sz : Nat) (B : Nat → Nat → Int32) (R : Nat → Nat → Int32) (E : Nat → Nat → Int32) (td : Int32) (cu : Int32) (sm : Int32) (pl : Int32) (oo : Nat → Int64) (hk : ¬ stfK cu sm pl = 0) : Met l yL_setFor wsL_setFor ({ frames := 8, cells := 1, slots := 6, locals := 133 } : Room) (va_Pc [.ref (a 0), .int (cu), .int (sm), .int (pl), .ref (a 26)] (PreL D cI cZ cL (wL a cI cZ cL B R E (td) oo) sz)) (va_Qi (fun (r : Int32) (u : Unit) => r = nI (stfK cu sm pl)) (fun (u : Unit) => PostL D cI cZ cL (va_A (wL a cI cZ cL B R E (td) oo) sz) (wL a cI cZ cL B R E (td) oo)) (va_A (wL a cI cZ cL B R E (td) oo) sz)) 1 6 (va_A (wL a cI cZ cL B R E (td) oo) sz) := by
  refine va_MetW (cc := cL_setFor) (maxL := 6) (ret := (some .int)) (hh := [(0, 12, 15, 13), (0, 12, 19, 15)]) (by decide) rfl ?_
  intro p e s m args below meth c s₁ BB hml hv
  obtain ⟨rfl, ⟨hsz, hP, hK3, hD0⟩, hX, hZ⟩ := hv
  have hx := BB.exec
  have hb := BB.bytes
  have hr := BB.returns
  have hts := atoms_spec (ws := wsL_setFor) BB.pre
  have hown : s.vm.findClass RL = some m.cls := findClass_of_methodNamed BB.named
  have hlocks := BB.notSynchronized
  have htab : c.exceptionTable.toList = tableOf [(0, 12, 15, 13), (0, 12, 19, 15)] := vx_table (x := yL_setFor) BB (hts (.codeWith yL_setFor cL_setFor 6 (some .int) [(0, 12, 15, 13), (0, 12, 19, 15)]) List.mem_cons_self)
  clear BB
  subst hsz
  have hK := hK3.sub (tys' := tyl cI cZ) [0, 1] rfl
  have hD := hD0.self (sz := s.heap.size)
  clear hD0
  generalize hAe : va_A (wL a cI cZ cL B R E (td) oo) s.heap.size = A at hD hZ ⊢
  have hA : ∀ q : Nat, s.heap.size ≤ q → A q := fun q h => by rw [← hAe]; exact Or.inr h
  clear hAe
  have hl := lv_entry ([.ref (a 0), .int (cu), .int (sm), .int (pl), .ref (a 26)]) (n := 6) (Nat.le_of_ble_eq_true rfl)
  rw [lg_entry_eq]
  generalize (lg_sl ([.ref (a 0), .int (cu), .int (sm), .int (pl), .ref (a 26)]) ++ List.replicate (6 - (lg_sl ([.ref (a 0), .int (cu), .int (sm), .int (pl), .ref (a 26)])).length) Slot.unset).toArray = ls at hl ⊢
  have hl : lv_has ls 6 [(0, .ref (a 0)), (1, .int (cu)), (2, .int (sm)), (3, .int (pl)), (4, .ref (a 26))] := hl
  generalize hHe : s.heap = H at hP ⊢
  have hS : va_S A s.heap H [] := by rw [← hHe]; exact va_S.rf
  clear hHe
  generalize hLe : ([] : List Loc) = locs at hS ⊢
  clear hLe
  refine lv_aload hx hb dL_setFor_0 (lv_at hl 4 rfl) ?_
  refine lv_iconst (v := 0) hx hb dL_setFor_2 (by decide) ?_
  refine lv_aload_n hx hb dL_setFor_3 rfl (lv_at hl 0 rfl) ?_
  refine lv_iload_n hx hb dL_setFor_4 rfl (lv_at hl 1 rfl) ?_
  refine lv_iload_n hx hb dL_setFor_5 rfl (lv_at hl 2 rfl) ?_
  refine lv_iload_n hx hb dL_setFor_6 rfl (lv_at hl 3 rfl) ?_
  rcases (show stfK cu sm pl = 0 ∨ stfK cu sm pl = 1 ∨ stfK cu sm pl = 2 from stfK_c).resolve_left hk with hk1 | hk2
  · -- 1
    refine zxV (ci := 3) (q0 := 0) ksCA ⟨hx, hb, hml, hown, hts⟩ (zwCA hP hD hS hA) hK hX hZ (x_X3_setFor l hfl D cI cZ a H.size (B) (R) (E) (td) (cu) (sm) (pl) eI (hk) (by rw [hk1]; rfl)) (cwV 3 hts gL_setFor_X3_setFor rfl rfl rfl (by decide +kernel) ⟨Nat.le_of_ble_eq_true rfl, Nat.le_of_ble_eq_true rfl⟩) rfl rfl (by decide) (zkCA _) rfl hl.1 rfl (Nat.le_of_ble_eq_true rfl) dL_setFor_7 ⟨Nat.le_of_ble_eq_true rfl, Nat.le_of_ble_eq_true rfl⟩ (fun ce q9 H locs hP hD hS hce hcv hcl => ?_)
    refine vx_catch (E := eI) (name := eI) hown [] ⟨0, 12, 15, 13⟩ [⟨0, 12, 19, 15⟩] htab (fun z hz => nomatch hz) rfl (by decide) (hts (.classLink RL 13 "java/lang/IndexOutOfBoundsException") (by decide +kernel)) (va_Nw.use rfl (hX.1.2.1)) hce hcv hcl ?_
    refine lv_astore (lv' := [(5, .ref (q9)), (0, .ref (a 0)), (1, .int (cu)), (2, .int (sm)), (3, .int (pl)), (4, .ref (a 26))]) hx hb dL_setFor_15 hl (by decide) rfl (fun ls hl => ?_)
    refine lv_iconst (v := 1) hx hb dL_setFor_17 (by decide) ?_
    exact W.iret (v := 1) hx hb hr (fun t ht hW => ⟨⟨1, (), rfl, (by rw [hk1]; rfl), by rw [ht]; exact hP, va_K.moved hW.alike hK3, hD⟩, hS.F ht⟩) hS.2.2 dL_setFor_18
  · -- 2
    refine zxV (ci := 3) (q0 := 0) ksCA ⟨hx, hb, hml, hown, hts⟩ (zwCA hP hD hS hA) hK hX hZ (x_X3_setFor l hfl D cI cZ a H.size (B) (R) (E) (td) (cu) (sm) (pl) eA (hk) (by rw [hk2]; rfl)) (cwV 3 hts gL_setFor_X3_setFor rfl rfl rfl (by decide +kernel) ⟨Nat.le_of_ble_eq_true rfl, Nat.le_of_ble_eq_true rfl⟩) rfl rfl (by decide) (zkCA _) rfl hl.1 rfl (Nat.le_of_ble_eq_true rfl) dL_setFor_7 ⟨Nat.le_of_ble_eq_true rfl, Nat.le_of_ble_eq_true rfl⟩ (fun ce q9 H locs hP hD hS hce hcv hcl => ?_)
    refine vx_catch (E := eA) (name := eA) hown [⟨0, 12, 15, 13⟩] ⟨0, 12, 19, 15⟩ [] htab (List.forall_mem_cons.mpr ⟨Or.inr ⟨by decide, eI, hts (.classLink RL 13 "java/lang/IndexOutOfBoundsException") (by decide +kernel), hX.2.2.1⟩, fun z hz => nomatch hz⟩) rfl (by decide) (hts (.classLink RL 15 "java/lang/IllegalArgumentException") (by decide +kernel)) (va_Nw.use rfl (hX.1.2.2.1)) hce hcv hcl ?_
    refine lv_astore (lv' := [(5, .ref (q9)), (0, .ref (a 0)), (1, .int (cu)), (2, .int (sm)), (3, .int (pl)), (4, .ref (a 26))]) hx hb dL_setFor_19 hl (by decide) rfl (fun ls hl => ?_)
    refine lv_iconst (v := 2) hx hb dL_setFor_21 (by decide) ?_
    exact W.iret (v := 2) hx hb hr (fun t ht hW => ⟨⟨2, (), rfl, (by rw [hk2]; rfl), by rw [ht]; exact hP, va_K.moved hW.alike hK3, hD⟩, hS.F ht⟩) hS.2.2 dL_setFor_22
set_option maxHeartbeats 4000000 in
set_option maxRecDepth 100000 in
theorem c_L_customerOf_0 (l : Launch) (D : va_G) (cI cZ cL : ClassId) (a : Nat → Nat) (sz : Nat) (B : Nat → Nat → Int32) (R : Nat → Nat → Int32) (E : Nat → Nat → Int32) (td : Int32) (q : Nat) (rc : Nat) (oo : Nat → Int64) (hR : R 8 0 = nI q) (hq : q ≤ 30) (hrq : rc < q) : Met l yL_customerOf wsL_customerOf ({ frames := 2, cells := 0, slots := 0, locals := 42 } : Room) (va_Pc [.ref (a 0), .int (nI (rc)), .ref (a 26)] (PreL D cI cZ cL (wL a cI cZ cL B R E (td) oo) sz)) (va_Qi (fun (r : Int32) (u : Unit) => r = 0) (fun (u : Unit) => PostL D cI cZ cL (va_A (wL a cI cZ cL B R E (td) oo) sz) (wL a cI cZ cL B R E (td) (vp_updL oo 0 (R 0 rc).toInt64))) (va_A (wL a cI cZ cL B R E (td) oo) sz)) 0 0 (va_A (wL a cI cZ cL B R E (td) oo) sz) := by
  refine va_MetW (cc := cL_customerOf) (maxL := 4) (ret := (some .int)) (hh := [(0, 9, 12, 13)]) (by decide) rfl ?_
  intro p e s m args below meth c s₁ BB hml hv
  obtain ⟨rfl, ⟨hsz, hP, hK3, hD0⟩, hX, hZ⟩ := hv
  have hx := BB.exec
  have hb := BB.bytes
  have hr := BB.returns
  have hts := atoms_spec (ws := wsL_customerOf) BB.pre
  have hown : s.vm.findClass RL = some m.cls := findClass_of_methodNamed BB.named
  have hlocks := BB.notSynchronized
  clear BB
  subst hsz
  have hK := hK3.sub (tys' := tyl cI cZ) [0, 1] rfl
  have hD := hD0.self (sz := s.heap.size)
  clear hD0
  generalize hAe : va_A (wL a cI cZ cL B R E (td) oo) s.heap.size = A at hD hZ ⊢
  have hA : ∀ q : Nat, s.heap.size ≤ q → A q := fun q h => by rw [← hAe]; exact Or.inr h
  clear hAe
  have hl := lv_entry ([.ref (a 0), .int (nI (rc)), .ref (a 26)]) (n := 4) (Nat.le_of_ble_eq_true rfl)
  rw [lg_entry_eq]
  generalize (lg_sl ([.ref (a 0), .int (nI (rc)), .ref (a 26)]) ++ List.replicate (4 - (lg_sl ([.ref (a 0), .int (nI (rc)), .ref (a 26)])).length) Slot.unset).toArray = ls at hl ⊢
  have hl : lv_has ls 4 [(0, .ref (a 0)), (1, .int (nI (rc))), (2, .ref (a 26))] := hl
  generalize hHe : s.heap = H at hP ⊢
  have hS : va_S A s.heap H [] := by rw [← hHe]; exact va_S.rf
  clear hHe
  generalize hLe : ([] : List Loc) = locs at hS ⊢
  clear hLe
  refine lv_aload_n hx hb dL_customerOf_0 rfl (lv_at hl 2 rfl) ?_
  refine lv_iconst (v := 0) hx hb dL_customerOf_1 (by decide) ?_
  refine lv_aload_n hx hb dL_customerOf_2 rfl (lv_at hl 0 rfl) ?_
  refine lv_iload_n hx hb dL_customerOf_3 rfl (lv_at hl 1 rfl) ?_
  refine zcVi (ci := 3) (q0 := 0) (wf := (fun (u : Unit) => (wL a cI cZ cL B R E (td) oo))) ksCA ⟨hx, hb, hml, hown, hts⟩ (zwCA hP hD hS hA) hK (c_X3_customerOf l D cI cZ a H.size (B) (R) (E) (td) (q) (rc) (by first | assumption | omega) (by first | assumption | omega) (by first | assumption | omega)) (cwV 1 hts gL_customerOf_X3_customerOf rfl rfl rfl (by decide +kernel) ⟨Nat.le_of_ble_eq_true rfl, Nat.le_of_ble_eq_true rfl⟩) rfl rfl (by decide) (fun _ => zkCA _) rfl hl.1 rfl (Nat.le_of_ble_eq_true rfl) dL_customerOf_4 ⟨Nat.le_of_ble_eq_true rfl, Nat.le_of_ble_eq_true rfl⟩ (fun r4 u H locs hw hP hD hS => ?_)
  subst hw
  refine lv_i2l (v := ((R) 0 (rc)).toInt64) hx hb dL_customerOf_7 rfl ?_
  refine zlst hx hb hK3 hP hD hS 26 rfl (wL a cI cZ cL B R E (td) (vp_updL oo 0 (R 0 rc).toInt64)) rfl dL_customerOf_8 (fun H locs hP hD hS => ?_)
  refine lv_goto (tgt := 15) hx hb dL_customerOf_9 (by decide) ?_
  refine lv_iconst (v := 0) hx hb dL_customerOf_15 (by decide) ?_
  exact W.iret (v := 0) hx hb hr (fun t ht hW => ⟨⟨0, (), rfl, rfl, by rw [ht]; exact hP, va_K.moved hW.alike hK3, hD⟩, hS.F ht⟩) hS.2.2 dL_customerOf_16
set_option maxHeartbeats 4000000 in
set_option maxRecDepth 100000 in
theorem c_L_customerOf_k (l : Launch) (hfl : l.stackTraces = false) (D : va_G) (cI cZ cL : ClassId) (a : Nat → Nat) (sz : Nat) (B : Nat → Nat → Int32) (R : Nat → Nat → Int32) (E : Nat → Nat → Int32) (td : Int32) (vx : Int32) (oo : Nat → Int64) (h : vx < 0 ∨ ¬ vx < R 8 0) : Met l yL_customerOf wsL_customerOf ({ frames := 8, cells := 1, slots := 6, locals := 132 } : Room) (va_Pc [.ref (a 0), .int (vx), .ref (a 26)] (PreL D cI cZ cL (wL a cI cZ cL B R E (td) oo) sz)) (va_Qi (fun (r : Int32) (u : Unit) => r = 1) (fun (u : Unit) => PostL D cI cZ cL (va_A (wL a cI cZ cL B R E (td) oo) sz) (wL a cI cZ cL B R E (td) oo)) (va_A (wL a cI cZ cL B R E (td) oo) sz)) 1 6 (va_A (wL a cI cZ cL B R E (td) oo) sz) := by
  refine va_MetW (cc := cL_customerOf) (maxL := 4) (ret := (some .int)) (hh := [(0, 9, 12, 13)]) (by decide) rfl ?_
  intro p e s m args below meth c s₁ BB hml hv
  obtain ⟨rfl, ⟨hsz, hP, hK3, hD0⟩, hX, hZ⟩ := hv
  have hx := BB.exec
  have hb := BB.bytes
  have hr := BB.returns
  have hts := atoms_spec (ws := wsL_customerOf) BB.pre
  have hown : s.vm.findClass RL = some m.cls := findClass_of_methodNamed BB.named
  have hlocks := BB.notSynchronized
  have htab : c.exceptionTable.toList = tableOf [(0, 9, 12, 13)] := vx_table (x := yL_customerOf) BB (hts (.codeWith yL_customerOf cL_customerOf 4 (some .int) [(0, 9, 12, 13)]) List.mem_cons_self)
  clear BB
  subst hsz
  have hK := hK3.sub (tys' := tyl cI cZ) [0, 1] rfl
  have hD := hD0.self (sz := s.heap.size)
  clear hD0
  generalize hAe : va_A (wL a cI cZ cL B R E (td) oo) s.heap.size = A at hD hZ ⊢
  have hA : ∀ q : Nat, s.heap.size ≤ q → A q := fun q h => by rw [← hAe]; exact Or.inr h
  clear hAe
  have hl := lv_entry ([.ref (a 0), .int (vx), .ref (a 26)]) (n := 4) (Nat.le_of_ble_eq_true rfl)
  rw [lg_entry_eq]
  generalize (lg_sl ([.ref (a 0), .int (vx), .ref (a 26)]) ++ List.replicate (4 - (lg_sl ([.ref (a 0), .int (vx), .ref (a 26)])).length) Slot.unset).toArray = ls at hl ⊢
  have hl : lv_has ls 4 [(0, .ref (a 0)), (1, .int (vx)), (2, .ref (a 26))] := hl
  generalize hHe : s.heap = H at hP ⊢
  have hS : va_S A s.heap H [] := by rw [← hHe]; exact va_S.rf
  clear hHe
  generalize hLe : ([] : List Loc) = locs at hS ⊢
  clear hLe
  refine lv_aload_n hx hb dL_customerOf_0 rfl (lv_at hl 2 rfl) ?_
  refine lv_iconst (v := 0) hx hb dL_customerOf_1 (by decide) ?_
  refine lv_aload_n hx hb dL_customerOf_2 rfl (lv_at hl 0 rfl) ?_
  refine lv_iload_n hx hb dL_customerOf_3 rfl (lv_at hl 1 rfl) ?_
  refine zxV (ci := 3) (q0 := 0) ksCA ⟨hx, hb, hml, hown, hts⟩ (zwCA hP hD hS hA) hK hX hZ (x_X3_customerOf l hfl D cI cZ a H.size (B) (R) (E) (td) (vx) (h)) (cwV 1 hts gL_customerOf_X3_customerOf rfl rfl rfl (by decide +kernel) ⟨Nat.le_of_ble_eq_true rfl, Nat.le_of_ble_eq_true rfl⟩) rfl rfl (by decide) (zkCA _) rfl hl.1 rfl (Nat.le_of_ble_eq_true rfl) dL_customerOf_4 ⟨Nat.le_of_ble_eq_true rfl, Nat.le_of_ble_eq_true rfl⟩ (fun ce q9 H locs hP hD hS hce hcv hcl => ?_)
  refine vx_catch (E := eI) (name := eI) hown [] ⟨0, 9, 12, 13⟩ [] htab (fun z hz => nomatch hz) rfl (by decide) (hts (.classLink RL 13 "java/lang/IndexOutOfBoundsException") (by decide +kernel)) (va_Nw.use rfl (hX.1.2.1)) hce hcv hcl ?_
  refine lv_astore_n (lv' := [(3, .ref (q9)), (0, .ref (a 0)), (1, .int (vx)), (2, .ref (a 26))]) hx hb dL_customerOf_12 rfl hl (by decide) rfl (fun ls hl => ?_)
  refine lv_iconst (v := 1) hx hb dL_customerOf_13 (by decide) ?_
  exact W.iret (v := 1) hx hb hr (fun t ht hW => ⟨⟨1, (), rfl, rfl, by rw [ht]; exact hP, va_K.moved hW.alike hK3, hD⟩, hS.F ht⟩) hS.2.2 dL_customerOf_14
set_option maxHeartbeats 4000000 in
set_option maxRecDepth 100000 in
theorem c_L_appliedTo_0 (l : Launch) (D : va_G) (cI cZ cL : ClassId) (a : Nat → Nat) (sz : Nat) (B : Nat → Nat → Int32) (R : Nat → Nat → Int32) (E : Nat → Nat → Int32) (td : Int32) (n : Nat) (q : Nat) (rc : Nat) (b : Nat) (oo : Nat → Int64) (hB : B 11 0 = nI n) (hn : n ≤ 40) (hR : R 8 0 = nI q) (hq : q ≤ 30) (hrq : rc < q) (hbn : b < n) : Met l yL_appliedTo wsL_appliedTo ({ frames := 3, cells := 0, slots := 0, locals := 65 } : Room) (va_Pc [.ref (a 0), .int (nI (rc)), .int (nI (b)), .ref (a 26)] (PreL D cI cZ cL (wL a cI cZ cL B R E (td) oo) sz)) (va_Qi (fun (r : Int32) (u : Unit) => r = 0) (fun (u : Unit) => PostL D cI cZ cL (va_A (wL a cI cZ cL B R E (td) oo) sz) (wL a cI cZ cL B R E (td) (vp_updL oo 0 (R 6 (40 * rc + b)).toInt64))) (va_A (wL a cI cZ cL B R E (td) oo) sz)) 0 0 (va_A (wL a cI cZ cL B R E (td) oo) sz) := by
  refine va_MetW (cc := cL_appliedTo) (maxL := 5) (ret := (some .int)) (hh := [(0, 10, 13, 13)]) (by decide) rfl ?_
  intro p e s m args below meth c s₁ BB hml hv
  obtain ⟨rfl, ⟨hsz, hP, hK3, hD0⟩, hX, hZ⟩ := hv
  have hx := BB.exec
  have hb := BB.bytes
  have hr := BB.returns
  have hts := atoms_spec (ws := wsL_appliedTo) BB.pre
  have hown : s.vm.findClass RL = some m.cls := findClass_of_methodNamed BB.named
  have hlocks := BB.notSynchronized
  clear BB
  subst hsz
  have hK := hK3.sub (tys' := tyl cI cZ) [0, 1] rfl
  have hD := hD0.self (sz := s.heap.size)
  clear hD0
  generalize hAe : va_A (wL a cI cZ cL B R E (td) oo) s.heap.size = A at hD hZ ⊢
  have hA : ∀ q : Nat, s.heap.size ≤ q → A q := fun q h => by rw [← hAe]; exact Or.inr h
  clear hAe
  have hl := lv_entry ([.ref (a 0), .int (nI (rc)), .int (nI (b)), .ref (a 26)]) (n := 5) (Nat.le_of_ble_eq_true rfl)
  rw [lg_entry_eq]
  generalize (lg_sl ([.ref (a 0), .int (nI (rc)), .int (nI (b)), .ref (a 26)]) ++ List.replicate (5 - (lg_sl ([.ref (a 0), .int (nI (rc)), .int (nI (b)), .ref (a 26)])).length) Slot.unset).toArray = ls at hl ⊢
  have hl : lv_has ls 5 [(0, .ref (a 0)), (1, .int (nI (rc))), (2, .int (nI (b))), (3, .ref (a 26))] := hl
  generalize hHe : s.heap = H at hP ⊢
  have hS : va_S A s.heap H [] := by rw [← hHe]; exact va_S.rf
  clear hHe
  generalize hLe : ([] : List Loc) = locs at hS ⊢
  clear hLe
  refine lv_aload_n hx hb dL_appliedTo_0 rfl (lv_at hl 3 rfl) ?_
  refine lv_iconst (v := 0) hx hb dL_appliedTo_1 (by decide) ?_
  refine lv_aload_n hx hb dL_appliedTo_2 rfl (lv_at hl 0 rfl) ?_
  refine lv_iload_n hx hb dL_appliedTo_3 rfl (lv_at hl 1 rfl) ?_
  refine lv_iload_n hx hb dL_appliedTo_4 rfl (lv_at hl 2 rfl) ?_
  refine zcVi (ci := 3) (q0 := 0) (wf := (fun (u : Unit) => (wL a cI cZ cL B R E (td) oo))) ksCA ⟨hx, hb, hml, hown, hts⟩ (zwCA hP hD hS hA) hK (c_X3_appliedTo l D cI cZ a H.size (B) (R) (E) (td) (n) (q) (rc) (b) (by first | assumption | omega) (by first | assumption | omega) (by first | assumption | omega) (by first | assumption | omega) (by first | assumption | omega) (by first | assumption | omega)) (cwV 2 hts gL_appliedTo_X3_appliedTo rfl rfl rfl (by decide +kernel) ⟨Nat.le_of_ble_eq_true rfl, Nat.le_of_ble_eq_true rfl⟩) rfl rfl (by decide) (fun _ => zkCA _) rfl hl.1 rfl (Nat.le_of_ble_eq_true rfl) dL_appliedTo_5 ⟨Nat.le_of_ble_eq_true rfl, Nat.le_of_ble_eq_true rfl⟩ (fun r5 u H locs hw hP hD hS => ?_)
  subst hw
  refine lv_i2l (v := ((R) 6 (40 * (rc) + (b))).toInt64) hx hb dL_appliedTo_8 rfl ?_
  refine zlst hx hb hK3 hP hD hS 26 rfl (wL a cI cZ cL B R E (td) (vp_updL oo 0 (R 6 (40 * rc + b)).toInt64)) rfl dL_appliedTo_9 (fun H locs hP hD hS => ?_)
  refine lv_goto (tgt := 17) hx hb dL_appliedTo_10 (by decide) ?_
  refine lv_iconst (v := 0) hx hb dL_appliedTo_17 (by decide) ?_
  exact W.iret (v := 0) hx hb hr (fun t ht hW => ⟨⟨0, (), rfl, rfl, by rw [ht]; exact hP, va_K.moved hW.alike hK3, hD⟩, hS.F ht⟩) hS.2.2 dL_appliedTo_18
set_option maxHeartbeats 4000000 in
set_option maxRecDepth 100000 in
theorem c_L_appliedTo_k (l : Launch) (hfl : l.stackTraces = false) (D : va_G) (cI cZ cL : ClassId) (a : Nat → Nat) (sz : Nat) (B : Nat → Nat → Int32) (R : Nat → Nat → Int32) (E : Nat → Nat → Int32) (td : Int32) (vx : Int32) (vb : Int32) (oo : Nat → Int64) (h : (vx < 0 ∨ ¬ vx < R 8 0) ∨ (vb < 0 ∨ ¬ vb < B 11 0)) : Met l yL_appliedTo wsL_appliedTo ({ frames := 8, cells := 1, slots := 6, locals := 133 } : Room) (va_Pc [.ref (a 0), .int (vx), .int (vb), .ref (a 26)] (PreL D cI cZ cL (wL a cI cZ cL B R E (td) oo) sz)) (va_Qi (fun (r : Int32) (u : Unit) => r = 1) (fun (u : Unit) => PostL D cI cZ cL (va_A (wL a cI cZ cL B R E (td) oo) sz) (wL a cI cZ cL B R E (td) oo)) (va_A (wL a cI cZ cL B R E (td) oo) sz)) 1 6 (va_A (wL a cI cZ cL B R E (td) oo) sz) := by
  refine va_MetW (cc := cL_appliedTo) (maxL := 5) (ret := (some .int)) (hh := [(0, 10, 13, 13)]) (by decide) rfl ?_
  intro p e s m args below meth c s₁ BB hml hv
  obtain ⟨rfl, ⟨hsz, hP, hK3, hD0⟩, hX, hZ⟩ := hv
  have hx := BB.exec
  have hb := BB.bytes
  have hr := BB.returns
  have hts := atoms_spec (ws := wsL_appliedTo) BB.pre
  have hown : s.vm.findClass RL = some m.cls := findClass_of_methodNamed BB.named
  have hlocks := BB.notSynchronized
  have htab : c.exceptionTable.toList = tableOf [(0, 10, 13, 13)] := vx_table (x := yL_appliedTo) BB (hts (.codeWith yL_appliedTo cL_appliedTo 5 (some .int) [(0, 10, 13, 13)]) List.mem_cons_self)
  clear BB
  subst hsz
  have hK := hK3.sub (tys' := tyl cI cZ) [0, 1] rfl
  have hD := hD0.self (sz := s.heap.size)
  clear hD0
  generalize hAe : va_A (wL a cI cZ cL B R E (td) oo) s.heap.size = A at hD hZ ⊢
  have hA : ∀ q : Nat, s.heap.size ≤ q → A q := fun q h => by rw [← hAe]; exact Or.inr h
  clear hAe
  have hl := lv_entry ([.ref (a 0), .int (vx), .int (vb), .ref (a 26)]) (n := 5) (Nat.le_of_ble_eq_true rfl)
  rw [lg_entry_eq]
  generalize (lg_sl ([.ref (a 0), .int (vx), .int (vb), .ref (a 26)]) ++ List.replicate (5 - (lg_sl ([.ref (a 0), .int (vx), .int (vb), .ref (a 26)])).length) Slot.unset).toArray = ls at hl ⊢
  have hl : lv_has ls 5 [(0, .ref (a 0)), (1, .int (vx)), (2, .int (vb)), (3, .ref (a 26))] := hl
  generalize hHe : s.heap = H at hP ⊢
  have hS : va_S A s.heap H [] := by rw [← hHe]; exact va_S.rf
  clear hHe
  generalize hLe : ([] : List Loc) = locs at hS ⊢
  clear hLe
  refine lv_aload_n hx hb dL_appliedTo_0 rfl (lv_at hl 3 rfl) ?_
  refine lv_iconst (v := 0) hx hb dL_appliedTo_1 (by decide) ?_
  refine lv_aload_n hx hb dL_appliedTo_2 rfl (lv_at hl 0 rfl) ?_
  refine lv_iload_n hx hb dL_appliedTo_3 rfl (lv_at hl 1 rfl) ?_
  refine lv_iload_n hx hb dL_appliedTo_4 rfl (lv_at hl 2 rfl) ?_
  refine zxV (ci := 3) (q0 := 0) ksCA ⟨hx, hb, hml, hown, hts⟩ (zwCA hP hD hS hA) hK hX hZ (x_X3_appliedTo l hfl D cI cZ a H.size (B) (R) (E) (td) (vx) (vb) (h)) (cwV 2 hts gL_appliedTo_X3_appliedTo rfl rfl rfl (by decide +kernel) ⟨Nat.le_of_ble_eq_true rfl, Nat.le_of_ble_eq_true rfl⟩) rfl rfl (by decide) (zkCA _) rfl hl.1 rfl (Nat.le_of_ble_eq_true rfl) dL_appliedTo_5 ⟨Nat.le_of_ble_eq_true rfl, Nat.le_of_ble_eq_true rfl⟩ (fun ce q9 H locs hP hD hS hce hcv hcl => ?_)
  refine vx_catch (E := eI) (name := eI) hown [] ⟨0, 10, 13, 13⟩ [] htab (fun z hz => nomatch hz) rfl (by decide) (hts (.classLink RL 13 "java/lang/IndexOutOfBoundsException") (by decide +kernel)) (va_Nw.use rfl (hX.1.2.1)) hce hcv hcl ?_
  refine lv_astore (lv' := [(4, .ref (q9)), (0, .ref (a 0)), (1, .int (vx)), (2, .int (vb)), (3, .ref (a 26))]) hx hb dL_appliedTo_13 hl (by decide) rfl (fun ls hl => ?_)
  refine lv_iconst (v := 1) hx hb dL_appliedTo_15 (by decide) ?_
  exact W.iret (v := 1) hx hb hr (fun t ht hW => ⟨⟨1, (), rfl, rfl, by rw [ht]; exact hP, va_K.moved hW.alike hK3, hD⟩, hS.F ht⟩) hS.2.2 dL_appliedTo_16
set_option maxHeartbeats 4000000 in
set_option maxRecDepth 100000 in
theorem c_L_unapplied_0 (l : Launch) (D : va_G) (cI cZ cL : ClassId) (a : Nat → Nat) (sz : Nat) (B : Nat → Nat → Int32) (R : Nat → Nat → Int32) (E : Nat → Nat → Int32) (td : Int32) (q : Nat) (rc : Nat) (oo : Nat → Int64) (hR : R 8 0 = nI q) (hq : q ≤ 30) (hrq : rc < q) : Met l yL_unapplied wsL_unapplied ({ frames := 2, cells := 0, slots := 0, locals := 42 } : Room) (va_Pc [.ref (a 0), .int (nI (rc)), .ref (a 26)] (PreL D cI cZ cL (wL a cI cZ cL B R E (td) oo) sz)) (va_Qi (fun (r : Int32) (u : Unit) => r = 0) (fun (u : Unit) => PostL D cI cZ cL (va_A (wL a cI cZ cL B R E (td) oo) sz) (wL a cI cZ cL B R E (td) (vp_updL oo 0 (R 3 rc).toInt64))) (va_A (wL a cI cZ cL B R E (td) oo) sz)) 0 0 (va_A (wL a cI cZ cL B R E (td) oo) sz) := by
  refine va_MetW (cc := cL_unapplied) (maxL := 4) (ret := (some .int)) (hh := [(0, 9, 12, 13)]) (by decide) rfl ?_
  intro p e s m args below meth c s₁ BB hml hv
  obtain ⟨rfl, ⟨hsz, hP, hK3, hD0⟩, hX, hZ⟩ := hv
  have hx := BB.exec
  have hb := BB.bytes
  have hr := BB.returns
  have hts := atoms_spec (ws := wsL_unapplied) BB.pre
  have hown : s.vm.findClass RL = some m.cls := findClass_of_methodNamed BB.named
  have hlocks := BB.notSynchronized
  clear BB
  subst hsz
  have hK := hK3.sub (tys' := tyl cI cZ) [0, 1] rfl
  have hD := hD0.self (sz := s.heap.size)
  clear hD0
  generalize hAe : va_A (wL a cI cZ cL B R E (td) oo) s.heap.size = A at hD hZ ⊢
  have hA : ∀ q : Nat, s.heap.size ≤ q → A q := fun q h => by rw [← hAe]; exact Or.inr h
  clear hAe
  have hl := lv_entry ([.ref (a 0), .int (nI (rc)), .ref (a 26)]) (n := 4) (Nat.le_of_ble_eq_true rfl)
  rw [lg_entry_eq]
  generalize (lg_sl ([.ref (a 0), .int (nI (rc)), .ref (a 26)]) ++ List.replicate (4 - (lg_sl ([.ref (a 0), .int (nI (rc)), .ref (a 26)])).length) Slot.unset).toArray = ls at hl ⊢
  have hl : lv_has ls 4 [(0, .ref (a 0)), (1, .int (nI (rc))), (2, .ref (a 26))] := hl
  generalize hHe : s.heap = H at hP ⊢
  have hS : va_S A s.heap H [] := by rw [← hHe]; exact va_S.rf
  clear hHe
  generalize hLe : ([] : List Loc) = locs at hS ⊢
  clear hLe
  refine lv_aload_n hx hb dL_unapplied_0 rfl (lv_at hl 2 rfl) ?_
  refine lv_iconst (v := 0) hx hb dL_unapplied_1 (by decide) ?_
  refine lv_aload_n hx hb dL_unapplied_2 rfl (lv_at hl 0 rfl) ?_
  refine lv_iload_n hx hb dL_unapplied_3 rfl (lv_at hl 1 rfl) ?_
  refine zcVi (ci := 3) (q0 := 0) (wf := (fun (u : Unit) => (wL a cI cZ cL B R E (td) oo))) ksCA ⟨hx, hb, hml, hown, hts⟩ (zwCA hP hD hS hA) hK (c_X3_unapplied l D cI cZ a H.size (B) (R) (E) (td) (q) (rc) (by first | assumption | omega) (by first | assumption | omega) (by first | assumption | omega)) (cwV 1 hts gL_unapplied_X3_unapplied rfl rfl rfl (by decide +kernel) ⟨Nat.le_of_ble_eq_true rfl, Nat.le_of_ble_eq_true rfl⟩) rfl rfl (by decide) (fun _ => zkCA _) rfl hl.1 rfl (Nat.le_of_ble_eq_true rfl) dL_unapplied_4 ⟨Nat.le_of_ble_eq_true rfl, Nat.le_of_ble_eq_true rfl⟩ (fun r4 u H locs hw hP hD hS => ?_)
  subst hw
  refine lv_i2l (v := ((R) 3 (rc)).toInt64) hx hb dL_unapplied_7 rfl ?_
  refine zlst hx hb hK3 hP hD hS 26 rfl (wL a cI cZ cL B R E (td) (vp_updL oo 0 (R 3 rc).toInt64)) rfl dL_unapplied_8 (fun H locs hP hD hS => ?_)
  refine lv_goto (tgt := 15) hx hb dL_unapplied_9 (by decide) ?_
  refine lv_iconst (v := 0) hx hb dL_unapplied_15 (by decide) ?_
  exact W.iret (v := 0) hx hb hr (fun t ht hW => ⟨⟨0, (), rfl, rfl, by rw [ht]; exact hP, va_K.moved hW.alike hK3, hD⟩, hS.F ht⟩) hS.2.2 dL_unapplied_16
set_option maxHeartbeats 4000000 in
set_option maxRecDepth 100000 in
theorem c_L_unapplied_k (l : Launch) (hfl : l.stackTraces = false) (D : va_G) (cI cZ cL : ClassId) (a : Nat → Nat) (sz : Nat) (B : Nat → Nat → Int32) (R : Nat → Nat → Int32) (E : Nat → Nat → Int32) (td : Int32) (vx : Int32) (oo : Nat → Int64) (h : vx < 0 ∨ ¬ vx < R 8 0) : Met l yL_unapplied wsL_unapplied ({ frames := 8, cells := 1, slots := 6, locals := 132 } : Room) (va_Pc [.ref (a 0), .int (vx), .ref (a 26)] (PreL D cI cZ cL (wL a cI cZ cL B R E (td) oo) sz)) (va_Qi (fun (r : Int32) (u : Unit) => r = 1) (fun (u : Unit) => PostL D cI cZ cL (va_A (wL a cI cZ cL B R E (td) oo) sz) (wL a cI cZ cL B R E (td) oo)) (va_A (wL a cI cZ cL B R E (td) oo) sz)) 1 6 (va_A (wL a cI cZ cL B R E (td) oo) sz) := by
  refine va_MetW (cc := cL_unapplied) (maxL := 4) (ret := (some .int)) (hh := [(0, 9, 12, 13)]) (by decide) rfl ?_
  intro p e s m args below meth c s₁ BB hml hv
  obtain ⟨rfl, ⟨hsz, hP, hK3, hD0⟩, hX, hZ⟩ := hv
  have hx := BB.exec
  have hb := BB.bytes
  have hr := BB.returns
  have hts := atoms_spec (ws := wsL_unapplied) BB.pre
  have hown : s.vm.findClass RL = some m.cls := findClass_of_methodNamed BB.named
  have hlocks := BB.notSynchronized
  have htab : c.exceptionTable.toList = tableOf [(0, 9, 12, 13)] := vx_table (x := yL_unapplied) BB (hts (.codeWith yL_unapplied cL_unapplied 4 (some .int) [(0, 9, 12, 13)]) List.mem_cons_self)
  clear BB
  subst hsz
  have hK := hK3.sub (tys' := tyl cI cZ) [0, 1] rfl
  have hD := hD0.self (sz := s.heap.size)
  clear hD0
  generalize hAe : va_A (wL a cI cZ cL B R E (td) oo) s.heap.size = A at hD hZ ⊢
  have hA : ∀ q : Nat, s.heap.size ≤ q → A q := fun q h => by rw [← hAe]; exact Or.inr h
  clear hAe
  have hl := lv_entry ([.ref (a 0), .int (vx), .ref (a 26)]) (n := 4) (Nat.le_of_ble_eq_true rfl)
  rw [lg_entry_eq]
  generalize (lg_sl ([.ref (a 0), .int (vx), .ref (a 26)]) ++ List.replicate (4 - (lg_sl ([.ref (a 0), .int (vx), .ref (a 26)])).length) Slot.unset).toArray = ls at hl ⊢
  have hl : lv_has ls 4 [(0, .ref (a 0)), (1, .int (vx)), (2, .ref (a 26))] := hl
  generalize hHe : s.heap = H at hP ⊢
  have hS : va_S A s.heap H [] := by rw [← hHe]; exact va_S.rf
  clear hHe
  generalize hLe : ([] : List Loc) = locs at hS ⊢
  clear hLe
  refine lv_aload_n hx hb dL_unapplied_0 rfl (lv_at hl 2 rfl) ?_
  refine lv_iconst (v := 0) hx hb dL_unapplied_1 (by decide) ?_
  refine lv_aload_n hx hb dL_unapplied_2 rfl (lv_at hl 0 rfl) ?_
  refine lv_iload_n hx hb dL_unapplied_3 rfl (lv_at hl 1 rfl) ?_
  refine zxV (ci := 3) (q0 := 0) ksCA ⟨hx, hb, hml, hown, hts⟩ (zwCA hP hD hS hA) hK hX hZ (x_X3_unapplied l hfl D cI cZ a H.size (B) (R) (E) (td) (vx) (h)) (cwV 1 hts gL_unapplied_X3_unapplied rfl rfl rfl (by decide +kernel) ⟨Nat.le_of_ble_eq_true rfl, Nat.le_of_ble_eq_true rfl⟩) rfl rfl (by decide) (zkCA _) rfl hl.1 rfl (Nat.le_of_ble_eq_true rfl) dL_unapplied_4 ⟨Nat.le_of_ble_eq_true rfl, Nat.le_of_ble_eq_true rfl⟩ (fun ce q9 H locs hP hD hS hce hcv hcl => ?_)
  refine vx_catch (E := eI) (name := eI) hown [] ⟨0, 9, 12, 13⟩ [] htab (fun z hz => nomatch hz) rfl (by decide) (hts (.classLink RL 13 "java/lang/IndexOutOfBoundsException") (by decide +kernel)) (va_Nw.use rfl (hX.1.2.1)) hce hcv hcl ?_
  refine lv_astore_n (lv' := [(3, .ref (q9)), (0, .ref (a 0)), (1, .int (vx)), (2, .ref (a 26))]) hx hb dL_unapplied_12 rfl hl (by decide) rfl (fun ls hl => ?_)
  refine lv_iconst (v := 1) hx hb dL_unapplied_13 (by decide) ?_
  exact W.iret (v := 1) hx hb hr (fun t ht hW => ⟨⟨1, (), rfl, rfl, by rw [ht]; exact hP, va_K.moved hW.alike hK3, hD⟩, hS.F ht⟩) hS.2.2 dL_unapplied_14
set_option maxHeartbeats 4000000 in
set_option maxRecDepth 100000 in
theorem c_L_hasBounced_0 (l : Launch) (D : va_G) (cI cZ cL : ClassId) (a : Nat → Nat) (sz : Nat) (B : Nat → Nat → Int32) (R : Nat → Nat → Int32) (E : Nat → Nat → Int32) (td : Int32) (q : Nat) (rc : Nat) (oo : Nat → Int64) (hR : R 8 0 = nI q) (hq : q ≤ 30) (hrq : rc < q) (hz : R 5 rc = 0 ∨ R 5 rc = 1) : Met l yL_hasBounced wsL_hasBounced ({ frames := 2, cells := 0, slots := 0, locals := 42 } : Room) (va_Pc [.ref (a 0), .int (nI (rc)), .ref (a 26)] (PreL D cI cZ cL (wL a cI cZ cL B R E (td) oo) sz)) (va_Qi (fun (r : Int32) (u : Unit) => r = 0) (fun (u : Unit) => PostL D cI cZ cL (va_A (wL a cI cZ cL B R E (td) oo) sz) (wL a cI cZ cL B R E (td) (vp_updL oo 0 (b2 (¬ R 5 rc = 0)).toInt64))) (va_A (wL a cI cZ cL B R E (td) oo) sz)) 0 0 (va_A (wL a cI cZ cL B R E (td) oo) sz) := by
  refine va_MetW (cc := cL_hasBounced) (maxL := 4) (ret := (some .int)) (hh := [(0, 16, 19, 13)]) (by decide) rfl ?_
  intro p e s m args below meth c s₁ BB hml hv
  obtain ⟨rfl, ⟨hsz, hP, hK3, hD0⟩, hX, hZ⟩ := hv
  have hx := BB.exec
  have hb := BB.bytes
  have hr := BB.returns
  have hts := atoms_spec (ws := wsL_hasBounced) BB.pre
  have hown : s.vm.findClass RL = some m.cls := findClass_of_methodNamed BB.named
  have hlocks := BB.notSynchronized
  clear BB
  subst hsz
  have hK := hK3.sub (tys' := tyl cI cZ) [0, 1] rfl
  have hD := hD0.self (sz := s.heap.size)
  clear hD0
  generalize hAe : va_A (wL a cI cZ cL B R E (td) oo) s.heap.size = A at hD hZ ⊢
  have hA : ∀ q : Nat, s.heap.size ≤ q → A q := fun q h => by rw [← hAe]; exact Or.inr h
  clear hAe
  have hl := lv_entry ([.ref (a 0), .int (nI (rc)), .ref (a 26)]) (n := 4) (Nat.le_of_ble_eq_true rfl)
  rw [lg_entry_eq]
  generalize (lg_sl ([.ref (a 0), .int (nI (rc)), .ref (a 26)]) ++ List.replicate (4 - (lg_sl ([.ref (a 0), .int (nI (rc)), .ref (a 26)])).length) Slot.unset).toArray = ls at hl ⊢
  have hl : lv_has ls 4 [(0, .ref (a 0)), (1, .int (nI (rc))), (2, .ref (a 26))] := hl
  generalize hHe : s.heap = H at hP ⊢
  have hS : va_S A s.heap H [] := by rw [← hHe]; exact va_S.rf
  clear hHe
  generalize hLe : ([] : List Loc) = locs at hS ⊢
  clear hLe
  refine lv_aload_n hx hb dL_hasBounced_0 rfl (lv_at hl 2 rfl) ?_
  refine lv_iconst (v := 0) hx hb dL_hasBounced_1 (by decide) ?_
  refine lv_aload_n hx hb dL_hasBounced_2 rfl (lv_at hl 0 rfl) ?_
  refine lv_iload_n hx hb dL_hasBounced_3 rfl (lv_at hl 1 rfl) ?_
  refine zcVi (ci := 3) (q0 := 0) (wf := (fun (u : Unit) => (wL a cI cZ cL B R E (td) oo))) ksCA ⟨hx, hb, hml, hown, hts⟩ (zwCA hP hD hS hA) hK (c_X3_hasBounced l D cI cZ a H.size (B) (R) (E) (td) (q) (rc) (by first | assumption | omega) (by first | assumption | omega) (by first | assumption | omega) (by first | assumption | omega)) (cwV 1 hts gL_hasBounced_X3_hasBounced rfl rfl rfl (by decide +kernel) ⟨Nat.le_of_ble_eq_true rfl, Nat.le_of_ble_eq_true rfl⟩) rfl rfl (by decide) (fun _ => zkCA _) rfl hl.1 rfl (Nat.le_of_ble_eq_true rfl) dL_hasBounced_4 ⟨Nat.le_of_ble_eq_true rfl, Nat.le_of_ble_eq_true rfl⟩ (fun r4 u H locs hw hP hD hS => ?_)
  subst hw
  refine lv_if_eq (tgt := 14) hx hb dL_hasBounced_7 (by decide) (fun c7 => ?_) (fun c7 => ?_)
  · -- 7 taken
    refine lv_lconst (v := 0) hx hb dL_hasBounced_14 (by decide) ?_
    have hans : (0 : Int64) = (b2 (¬ R 5 rc = 0)).toInt64 := by rw [b2, if_neg (fun z => z c7)]; rfl
    rw [hans]
    refine zlst hx hb hK3 hP hD hS 26 rfl (wL a cI cZ cL B R E (td) (vp_updL oo 0 (b2 (¬ R 5 rc = 0)).toInt64)) rfl dL_hasBounced_15 (fun H locs hP hD hS => ?_)
    refine lv_goto (tgt := 22) hx hb dL_hasBounced_16 (by decide) ?_
    refine lv_iconst (v := 0) hx hb dL_hasBounced_22 (by decide) ?_
    exact W.iret (v := 0) hx hb hr (fun t ht hW => ⟨⟨0, (), rfl, rfl, by rw [ht]; exact hP, va_K.moved hW.alike hK3, hD⟩, hS.F ht⟩) hS.2.2 dL_hasBounced_23
  · -- 7 on
    refine lv_lconst (v := 1) hx hb dL_hasBounced_10 (by decide) ?_
    refine lv_goto (tgt := 15) hx hb dL_hasBounced_11 (by decide) ?_
    have hans : (1 : Int64) = (b2 (¬ R 5 rc = 0)).toInt64 := by rw [b2, if_pos c7]; rfl
    rw [hans]
    refine zlst hx hb hK3 hP hD hS 26 rfl (wL a cI cZ cL B R E (td) (vp_updL oo 0 (b2 (¬ R 5 rc = 0)).toInt64)) rfl dL_hasBounced_15 (fun H locs hP hD hS => ?_)
    refine lv_goto (tgt := 22) hx hb dL_hasBounced_16 (by decide) ?_
    refine lv_iconst (v := 0) hx hb dL_hasBounced_22 (by decide) ?_
    exact W.iret (v := 0) hx hb hr (fun t ht hW => ⟨⟨0, (), rfl, rfl, by rw [ht]; exact hP, va_K.moved hW.alike hK3, hD⟩, hS.F ht⟩) hS.2.2 dL_hasBounced_23
set_option maxHeartbeats 4000000 in
set_option maxRecDepth 100000 in
theorem c_L_hasBounced_k (l : Launch) (hfl : l.stackTraces = false) (D : va_G) (cI cZ cL : ClassId) (a : Nat → Nat) (sz : Nat) (B : Nat → Nat → Int32) (R : Nat → Nat → Int32) (E : Nat → Nat → Int32) (td : Int32) (vx : Int32) (oo : Nat → Int64) (h : vx < 0 ∨ ¬ vx < R 8 0) : Met l yL_hasBounced wsL_hasBounced ({ frames := 8, cells := 1, slots := 6, locals := 132 } : Room) (va_Pc [.ref (a 0), .int (vx), .ref (a 26)] (PreL D cI cZ cL (wL a cI cZ cL B R E (td) oo) sz)) (va_Qi (fun (r : Int32) (u : Unit) => r = 1) (fun (u : Unit) => PostL D cI cZ cL (va_A (wL a cI cZ cL B R E (td) oo) sz) (wL a cI cZ cL B R E (td) oo)) (va_A (wL a cI cZ cL B R E (td) oo) sz)) 1 6 (va_A (wL a cI cZ cL B R E (td) oo) sz) := by
  refine va_MetW (cc := cL_hasBounced) (maxL := 4) (ret := (some .int)) (hh := [(0, 16, 19, 13)]) (by decide) rfl ?_
  intro p e s m args below meth c s₁ BB hml hv
  obtain ⟨rfl, ⟨hsz, hP, hK3, hD0⟩, hX, hZ⟩ := hv
  have hx := BB.exec
  have hb := BB.bytes
  have hr := BB.returns
  have hts := atoms_spec (ws := wsL_hasBounced) BB.pre
  have hown : s.vm.findClass RL = some m.cls := findClass_of_methodNamed BB.named
  have hlocks := BB.notSynchronized
  have htab : c.exceptionTable.toList = tableOf [(0, 16, 19, 13)] := vx_table (x := yL_hasBounced) BB (hts (.codeWith yL_hasBounced cL_hasBounced 4 (some .int) [(0, 16, 19, 13)]) List.mem_cons_self)
  clear BB
  subst hsz
  have hK := hK3.sub (tys' := tyl cI cZ) [0, 1] rfl
  have hD := hD0.self (sz := s.heap.size)
  clear hD0
  generalize hAe : va_A (wL a cI cZ cL B R E (td) oo) s.heap.size = A at hD hZ ⊢
  have hA : ∀ q : Nat, s.heap.size ≤ q → A q := fun q h => by rw [← hAe]; exact Or.inr h
  clear hAe
  have hl := lv_entry ([.ref (a 0), .int (vx), .ref (a 26)]) (n := 4) (Nat.le_of_ble_eq_true rfl)
  rw [lg_entry_eq]
  generalize (lg_sl ([.ref (a 0), .int (vx), .ref (a 26)]) ++ List.replicate (4 - (lg_sl ([.ref (a 0), .int (vx), .ref (a 26)])).length) Slot.unset).toArray = ls at hl ⊢
  have hl : lv_has ls 4 [(0, .ref (a 0)), (1, .int (vx)), (2, .ref (a 26))] := hl
  generalize hHe : s.heap = H at hP ⊢
  have hS : va_S A s.heap H [] := by rw [← hHe]; exact va_S.rf
  clear hHe
  generalize hLe : ([] : List Loc) = locs at hS ⊢
  clear hLe
  refine lv_aload_n hx hb dL_hasBounced_0 rfl (lv_at hl 2 rfl) ?_
  refine lv_iconst (v := 0) hx hb dL_hasBounced_1 (by decide) ?_
  refine lv_aload_n hx hb dL_hasBounced_2 rfl (lv_at hl 0 rfl) ?_
  refine lv_iload_n hx hb dL_hasBounced_3 rfl (lv_at hl 1 rfl) ?_
  refine zxV (ci := 3) (q0 := 0) ksCA ⟨hx, hb, hml, hown, hts⟩ (zwCA hP hD hS hA) hK hX hZ (x_X3_hasBounced l hfl D cI cZ a H.size (B) (R) (E) (td) (vx) (h)) (cwV 1 hts gL_hasBounced_X3_hasBounced rfl rfl rfl (by decide +kernel) ⟨Nat.le_of_ble_eq_true rfl, Nat.le_of_ble_eq_true rfl⟩) rfl rfl (by decide) (zkCA _) rfl hl.1 rfl (Nat.le_of_ble_eq_true rfl) dL_hasBounced_4 ⟨Nat.le_of_ble_eq_true rfl, Nat.le_of_ble_eq_true rfl⟩ (fun ce q9 H locs hP hD hS hce hcv hcl => ?_)
  refine vx_catch (E := eI) (name := eI) hown [] ⟨0, 16, 19, 13⟩ [] htab (fun z hz => nomatch hz) rfl (by decide) (hts (.classLink RL 13 "java/lang/IndexOutOfBoundsException") (by decide +kernel)) (va_Nw.use rfl (hX.1.2.1)) hce hcv hcl ?_
  refine lv_astore_n (lv' := [(3, .ref (q9)), (0, .ref (a 0)), (1, .int (vx)), (2, .ref (a 26))]) hx hb dL_hasBounced_19 rfl hl (by decide) rfl (fun ls hl => ?_)
  refine lv_iconst (v := 1) hx hb dL_hasBounced_20 (by decide) ?_
  exact W.iret (v := 1) hx hb hr (fun t ht hW => ⟨⟨1, (), rfl, rfl, by rw [ht]; exact hP, va_K.moved hW.alike hK3, hD⟩, hS.F ht⟩) hS.2.2 dL_hasBounced_21
