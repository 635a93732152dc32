theorem dX2_init_0 : decode cX2_init 0 = .ok (.aload_n 0, 1) := by decide +kernel
theorem dX2_init_1 : decode cX2_init 1 = .ok (.invokespecial 3, 3) := by decide +kernel
theorem dX2_init_4 : decode cX2_init 4 = .ok (.aload_n 0, 1) := by decide +kernel
theorem dX2_init_5 : decode cX2_init 5 = .ok (.bipush 30, 2) := by decide +kernel
theorem dX2_init_7 : decode cX2_init 7 = .ok (.newarray .int, 2) := by decide +kernel
theorem dX2_init_9 : decode cX2_init 9 = .ok (.putfield 9, 3) := by decide +kernel
theorem dX2_init_12 : decode cX2_init 12 = .ok (.aload_n 0, 1) := by decide +kernel
theorem dX2_init_13 : decode cX2_init 13 = .ok (.bipush 30, 2) := by decide +kernel
theorem dX2_init_15 : decode cX2_init 15 = .ok (.newarray .int, 2) := by decide +kernel
theorem dX2_init_17 : decode cX2_init 17 = .ok (.putfield 15, 3) := by decide +kernel
theorem dX2_init_20 : decode cX2_init 20 = .ok (.aload_n 0, 1) := by decide +kernel
theorem dX2_init_21 : decode cX2_init 21 = .ok (.bipush 30, 2) := by decide +kernel
theorem dX2_init_23 : decode cX2_init 23 = .ok (.newarray .int, 2) := by decide +kernel
theorem dX2_init_25 : decode cX2_init 25 = .ok (.putfield 18, 3) := by decide +kernel
theorem dX2_init_28 : decode cX2_init 28 = .ok (.aload_n 0, 1) := by decide +kernel
theorem dX2_init_29 : decode cX2_init 29 = .ok (.bipush 30, 2) := by decide +kernel
theorem dX2_init_31 : decode cX2_init 31 = .ok (.newarray .int, 2) := by decide +kernel
theorem dX2_init_33 : decode cX2_init 33 = .ok (.putfield 21, 3) := by decide +kernel
theorem dX2_init_36 : decode cX2_init 36 = .ok (.aload_n 0, 1) := by decide +kernel
theorem dX2_init_37 : decode cX2_init 37 = .ok (.bipush 30, 2) := by decide +kernel
theorem dX2_init_39 : decode cX2_init 39 = .ok (.newarray .int, 2) := by decide +kernel
theorem dX2_init_41 : decode cX2_init 41 = .ok (.putfield 24, 3) := by decide +kernel
theorem dX2_init_44 : decode cX2_init 44 = .ok (.aload_n 0, 1) := by decide +kernel
theorem dX2_init_45 : decode cX2_init 45 = .ok (.bipush 30, 2) := by decide +kernel
theorem dX2_init_47 : decode cX2_init 47 = .ok (.newarray .boolean, 2) := by decide +kernel
theorem dX2_init_49 : decode cX2_init 49 = .ok (.putfield 27, 3) := by decide +kernel
theorem dX2_init_52 : decode cX2_init 52 = .ok (.aload_n 0, 1) := by decide +kernel
theorem dX2_init_53 : decode cX2_init 53 = .ok (.sipush 1200, 3) := by decide +kernel
theorem dX2_init_56 : decode cX2_init 56 = .ok (.newarray .int, 2) := by decide +kernel
theorem dX2_init_58 : decode cX2_init 58 = .ok (.putfield 31, 3) := by decide +kernel
theorem dX2_init_61 : decode cX2_init 61 = .ok (.aload_n 0, 1) := by decide +kernel
theorem dX2_init_62 : decode cX2_init 62 = .ok (.sipush 1200, 3) := by decide +kernel
theorem dX2_init_65 : decode cX2_init 65 = .ok (.newarray .boolean, 2) := by decide +kernel
theorem dX2_init_67 : decode cX2_init 67 = .ok (.putfield 34, 3) := by decide +kernel
theorem dX2_init_70 : decode cX2_init 70 = .ok (.return_, 1) := by decide +kernel
theorem dX2_add_0 : decode cX2_add 0 = .ok (.aload_n 0, 1) := by decide +kernel
theorem dX2_add_1 : decode cX2_add 1 = .ok (.getfield 37, 3) := by decide +kernel
theorem dX2_add_4 : decode cX2_add 4 = .ok (.istore_n 3, 1) := by decide +kernel
theorem dX2_add_5 : decode cX2_add 5 = .ok (.aload_n 0, 1) := by decide +kernel
theorem dX2_add_6 : decode cX2_add 6 = .ok (.getfield 9, 3) := by decide +kernel
theorem dX2_add_9 : decode cX2_add 9 = .ok (.iload_n 3, 1) := by decide +kernel
theorem dX2_add_10 : decode cX2_add 10 = .ok (.iload_n 1, 1) := by decide +kernel
theorem dX2_add_11 : decode cX2_add 11 = .ok (.iastore, 1) := by decide +kernel
theorem dX2_add_12 : decode cX2_add 12 = .ok (.aload_n 0, 1) := by decide +kernel
theorem dX2_add_13 : decode cX2_add 13 = .ok (.getfield 15, 3) := by decide +kernel
theorem dX2_add_16 : decode cX2_add 16 = .ok (.iload_n 3, 1) := by decide +kernel
theorem dX2_add_17 : decode cX2_add 17 = .ok (.iload_n 2, 1) := by decide +kernel
theorem dX2_add_18 : decode cX2_add 18 = .ok (.iastore, 1) := by decide +kernel
theorem dX2_add_19 : decode cX2_add 19 = .ok (.aload_n 0, 1) := by decide +kernel
theorem dX2_add_20 : decode cX2_add 20 = .ok (.getfield 21, 3) := by decide +kernel
theorem dX2_add_23 : decode cX2_add 23 = .ok (.iload_n 3, 1) := by decide +kernel
theorem dX2_add_24 : decode cX2_add 24 = .ok (.iload_n 2, 1) := by decide +kernel
theorem dX2_add_25 : decode cX2_add 25 = .ok (.iastore, 1) := by decide +kernel
theorem dX2_add_26 : decode cX2_add 26 = .ok (.aload_n 0, 1) := by decide +kernel
theorem dX2_add_27 : decode cX2_add 27 = .ok (.dup, 1) := by decide +kernel
theorem dX2_add_28 : decode cX2_add 28 = .ok (.getfield 37, 3) := by decide +kernel
theorem dX2_add_31 : decode cX2_add 31 = .ok (.iconst 1, 1) := by decide +kernel
theorem dX2_add_32 : decode cX2_add 32 = .ok (.iadd, 1) := by decide +kernel
theorem dX2_add_33 : decode cX2_add 33 = .ok (.putfield 37, 3) := by decide +kernel
theorem dX2_add_36 : decode cX2_add 36 = .ok (.iload_n 3, 1) := by decide +kernel
theorem dX2_add_37 : decode cX2_add 37 = .ok (.ireturn, 1) := by decide +kernel
theorem dX2_cell_0 : decode cX2_cell 0 = .ok (.iload_n 0, 1) := by decide +kernel
theorem dX2_cell_1 : decode cX2_cell 1 = .ok (.bipush 40, 2) := by decide +kernel
theorem dX2_cell_3 : decode cX2_cell 3 = .ok (.imul, 1) := by decide +kernel
theorem dX2_cell_4 : decode cX2_cell 4 = .ok (.iload_n 1, 1) := by decide +kernel
theorem dX2_cell_5 : decode cX2_cell 5 = .ok (.iadd, 1) := by decide +kernel
theorem dX2_cell_6 : decode cX2_cell 6 = .ok (.ireturn, 1) := by decide +kernel
theorem dX2_hasPaid_0 : decode cX2_hasPaid 0 = .ok (.aload_n 0, 1) := by decide +kernel
theorem dX2_hasPaid_1 : decode cX2_hasPaid 1 = .ok (.getfield 34, 3) := by decide +kernel
theorem dX2_hasPaid_4 : decode cX2_hasPaid 4 = .ok (.iload_n 1, 1) := by decide +kernel
theorem dX2_hasPaid_5 : decode cX2_hasPaid 5 = .ok (.iload_n 2, 1) := by decide +kernel
theorem dX2_hasPaid_6 : decode cX2_hasPaid 6 = .ok (.invokestatic 41, 3) := by decide +kernel
theorem dX2_hasPaid_9 : decode cX2_hasPaid 9 = .ok (.baload, 1) := by decide +kernel
theorem dX2_hasPaid_10 : decode cX2_hasPaid 10 = .ok (.ireturn, 1) := by decide +kernel
theorem dX2_paidOf_0 : decode cX2_paidOf 0 = .ok (.aload_n 0, 1) := by decide +kernel
theorem dX2_paidOf_1 : decode cX2_paidOf 1 = .ok (.getfield 31, 3) := by decide +kernel
theorem dX2_paidOf_4 : decode cX2_paidOf 4 = .ok (.iload_n 1, 1) := by decide +kernel
theorem dX2_paidOf_5 : decode cX2_paidOf 5 = .ok (.iload_n 2, 1) := by decide +kernel
theorem dX2_paidOf_6 : decode cX2_paidOf 6 = .ok (.invokestatic 41, 3) := by decide +kernel
theorem dX2_paidOf_9 : decode cX2_paidOf 9 = .ok (.iaload, 1) := by decide +kernel
theorem dX2_paidOf_10 : decode cX2_paidOf 10 = .ok (.ireturn, 1) := by decide +kernel
theorem dX2_addPayment_0 : decode cX2_addPayment 0 = .ok (.aload_n 0, 1) := by decide +kernel
theorem dX2_addPayment_1 : decode cX2_addPayment 1 = .ok (.getfield 31, 3) := by decide +kernel
theorem dX2_addPayment_4 : decode cX2_addPayment 4 = .ok (.iload_n 1, 1) := by decide +kernel
theorem dX2_addPayment_5 : decode cX2_addPayment 5 = .ok (.iload_n 2, 1) := by decide +kernel
theorem dX2_addPayment_6 : decode cX2_addPayment 6 = .ok (.invokestatic 41, 3) := by decide +kernel
theorem dX2_addPayment_9 : decode cX2_addPayment 9 = .ok (.dup2, 1) := by decide +kernel
theorem dX2_addPayment_10 : decode cX2_addPayment 10 = .ok (.iaload, 1) := by decide +kernel
theorem dX2_addPayment_11 : decode cX2_addPayment 11 = .ok (.iload_n 3, 1) := by decide +kernel
theorem dX2_addPayment_12 : decode cX2_addPayment 12 = .ok (.iadd, 1) := by decide +kernel
theorem dX2_addPayment_13 : decode cX2_addPayment 13 = .ok (.iastore, 1) := by decide +kernel
theorem dX2_addPayment_14 : decode cX2_addPayment 14 = .ok (.aload_n 0, 1) := by decide +kernel
theorem dX2_addPayment_15 : decode cX2_addPayment 15 = .ok (.getfield 34, 3) := by decide +kernel
theorem dX2_addPayment_18 : decode cX2_addPayment 18 = .ok (.iload_n 1, 1) := by decide +kernel
theorem dX2_addPayment_19 : decode cX2_addPayment 19 = .ok (.iload_n 2, 1) := by decide +kernel
theorem dX2_addPayment_20 : decode cX2_addPayment 20 = .ok (.invokestatic 41, 3) := by decide +kernel
theorem dX2_addPayment_23 : decode cX2_addPayment 23 = .ok (.iconst 1, 1) := by decide +kernel
theorem dX2_addPayment_24 : decode cX2_addPayment 24 = .ok (.bastore, 1) := by decide +kernel
theorem dX2_addPayment_25 : decode cX2_addPayment 25 = .ok (.aload_n 0, 1) := by decide +kernel
theorem dX2_addPayment_26 : decode cX2_addPayment 26 = .ok (.getfield 18, 3) := by decide +kernel
theorem dX2_addPayment_29 : decode cX2_addPayment 29 = .ok (.iload_n 1, 1) := by decide +kernel
theorem dX2_addPayment_30 : decode cX2_addPayment 30 = .ok (.dup2, 1) := by decide +kernel
theorem dX2_addPayment_31 : decode cX2_addPayment 31 = .ok (.iaload, 1) := by decide +kernel
theorem dX2_addPayment_32 : decode cX2_addPayment 32 = .ok (.iload_n 3, 1) := by decide +kernel
theorem dX2_addPayment_33 : decode cX2_addPayment 33 = .ok (.iadd, 1) := by decide +kernel
theorem dX2_addPayment_34 : decode cX2_addPayment 34 = .ok (.iastore, 1) := by decide +kernel
theorem dX2_addPayment_35 : decode cX2_addPayment 35 = .ok (.aload_n 0, 1) := by decide +kernel
theorem dX2_addPayment_36 : decode cX2_addPayment 36 = .ok (.getfield 21, 3) := by decide +kernel
theorem dX2_addPayment_39 : decode cX2_addPayment 39 = .ok (.iload_n 1, 1) := by decide +kernel
theorem dX2_addPayment_40 : decode cX2_addPayment 40 = .ok (.dup2, 1) := by decide +kernel
theorem dX2_addPayment_41 : decode cX2_addPayment 41 = .ok (.iaload, 1) := by decide +kernel
theorem dX2_addPayment_42 : decode cX2_addPayment 42 = .ok (.iload_n 3, 1) := by decide +kernel
theorem dX2_addPayment_43 : decode cX2_addPayment 43 = .ok (.isub, 1) := by decide +kernel
theorem dX2_addPayment_44 : decode cX2_addPayment 44 = .ok (.iastore, 1) := by decide +kernel
theorem dX2_addPayment_45 : decode cX2_addPayment 45 = .ok (.return_, 1) := by decide +kernel
theorem dX2_dropPayment_0 : decode cX2_dropPayment 0 = .ok (.aload_n 0, 1) := by decide +kernel
theorem dX2_dropPayment_1 : decode cX2_dropPayment 1 = .ok (.getfield 18, 3) := by decide +kernel
theorem dX2_dropPayment_4 : decode cX2_dropPayment 4 = .ok (.iload_n 1, 1) := by decide +kernel
theorem dX2_dropPayment_5 : decode cX2_dropPayment 5 = .ok (.dup2, 1) := by decide +kernel
theorem dX2_dropPayment_6 : decode cX2_dropPayment 6 = .ok (.iaload, 1) := by decide +kernel
theorem dX2_dropPayment_7 : decode cX2_dropPayment 7 = .ok (.aload_n 0, 1) := by decide +kernel
theorem dX2_dropPayment_8 : decode cX2_dropPayment 8 = .ok (.getfield 31, 3) := by decide +kernel
theorem dX2_dropPayment_11 : decode cX2_dropPayment 11 = .ok (.iload_n 1, 1) := by decide +kernel
theorem dX2_dropPayment_12 : decode cX2_dropPayment 12 = .ok (.iload_n 2, 1) := by decide +kernel
theorem dX2_dropPayment_13 : decode cX2_dropPayment 13 = .ok (.invokestatic 41, 3) := by decide +kernel
theorem dX2_dropPayment_16 : decode cX2_dropPayment 16 = .ok (.iaload, 1) := by decide +kernel
theorem dX2_dropPayment_17 : decode cX2_dropPayment 17 = .ok (.isub, 1) := by decide +kernel
theorem dX2_dropPayment_18 : decode cX2_dropPayment 18 = .ok (.iastore, 1) := by decide +kernel
theorem dX2_dropPayment_19 : decode cX2_dropPayment 19 = .ok (.aload_n 0, 1) := by decide +kernel
theorem dX2_dropPayment_20 : decode cX2_dropPayment 20 = .ok (.getfield 31, 3) := by decide +kernel
theorem dX2_dropPayment_23 : decode cX2_dropPayment 23 = .ok (.iload_n 1, 1) := by decide +kernel
theorem dX2_dropPayment_24 : decode cX2_dropPayment 24 = .ok (.iload_n 2, 1) := by decide +kernel
theorem dX2_dropPayment_25 : decode cX2_dropPayment 25 = .ok (.invokestatic 41, 3) := by decide +kernel
theorem dX2_dropPayment_28 : decode cX2_dropPayment 28 = .ok (.iconst 0, 1) := by decide +kernel
theorem dX2_dropPayment_29 : decode cX2_dropPayment 29 = .ok (.iastore, 1) := by decide +kernel
theorem dX2_dropPayment_30 : decode cX2_dropPayment 30 = .ok (.aload_n 0, 1) := by decide +kernel
theorem dX2_dropPayment_31 : decode cX2_dropPayment 31 = .ok (.getfield 34, 3) := by decide +kernel
theorem dX2_dropPayment_34 : decode cX2_dropPayment 34 = .ok (.iload_n 1, 1) := by decide +kernel
theorem dX2_dropPayment_35 : decode cX2_dropPayment 35 = .ok (.iload_n 2, 1) := by decide +kernel
theorem dX2_dropPayment_36 : decode cX2_dropPayment 36 = .ok (.invokestatic 41, 3) := by decide +kernel
theorem dX2_dropPayment_39 : decode cX2_dropPayment 39 = .ok (.iconst 0, 1) := by decide +kernel
theorem dX2_dropPayment_40 : decode cX2_dropPayment 40 = .ok (.bastore, 1) := by decide +kernel
theorem dX2_dropPayment_41 : decode cX2_dropPayment 41 = .ok (.return_, 1) := by decide +kernel
theorem dX2_markBounced_0 : decode cX2_markBounced 0 = .ok (.aload_n 0, 1) := by decide +kernel
theorem dX2_markBounced_1 : decode cX2_markBounced 1 = .ok (.getfield 21, 3) := by decide +kernel
theorem dX2_markBounced_4 : decode cX2_markBounced 4 = .ok (.iload_n 1, 1) := by decide +kernel
theorem dX2_markBounced_5 : decode cX2_markBounced 5 = .ok (.iconst 0, 1) := by decide +kernel
theorem dX2_markBounced_6 : decode cX2_markBounced 6 = .ok (.iastore, 1) := by decide +kernel
theorem dX2_markBounced_7 : decode cX2_markBounced 7 = .ok (.aload_n 0, 1) := by decide +kernel
theorem dX2_markBounced_8 : decode cX2_markBounced 8 = .ok (.getfield 27, 3) := by decide +kernel
theorem dX2_markBounced_11 : decode cX2_markBounced 11 = .ok (.iload_n 1, 1) := by decide +kernel
theorem dX2_markBounced_12 : decode cX2_markBounced 12 = .ok (.iconst 1, 1) := by decide +kernel
theorem dX2_markBounced_13 : decode cX2_markBounced 13 = .ok (.bastore, 1) := by decide +kernel
theorem dX2_markBounced_14 : decode cX2_markBounced 14 = .ok (.return_, 1) := by decide +kernel
theorem dX2_payBackRest_0 : decode cX2_payBackRest 0 = .ok (.aload_n 0, 1) := by decide +kernel
theorem dX2_payBackRest_1 : decode cX2_payBackRest 1 = .ok (.getfield 21, 3) := by decide +kernel
theorem dX2_payBackRest_4 : decode cX2_payBackRest 4 = .ok (.iload_n 1, 1) := by decide +kernel
theorem dX2_payBackRest_5 : decode cX2_payBackRest 5 = .ok (.iaload, 1) := by decide +kernel
theorem dX2_payBackRest_6 : decode cX2_payBackRest 6 = .ok (.istore_n 2, 1) := by decide +kernel
theorem dX2_payBackRest_7 : decode cX2_payBackRest 7 = .ok (.aload_n 0, 1) := by decide +kernel
theorem dX2_payBackRest_8 : decode cX2_payBackRest 8 = .ok (.getfield 21, 3) := by decide +kernel
theorem dX2_payBackRest_11 : decode cX2_payBackRest 11 = .ok (.iload_n 1, 1) := by decide +kernel
theorem dX2_payBackRest_12 : decode cX2_payBackRest 12 = .ok (.iconst 0, 1) := by decide +kernel
theorem dX2_payBackRest_13 : decode cX2_payBackRest 13 = .ok (.iastore, 1) := by decide +kernel
theorem dX2_payBackRest_14 : decode cX2_payBackRest 14 = .ok (.aload_n 0, 1) := by decide +kernel
theorem dX2_payBackRest_15 : decode cX2_payBackRest 15 = .ok (.getfield 24, 3) := by decide +kernel
theorem dX2_payBackRest_18 : decode cX2_payBackRest 18 = .ok (.iload_n 1, 1) := by decide +kernel
theorem dX2_payBackRest_19 : decode cX2_payBackRest 19 = .ok (.dup2, 1) := by decide +kernel
theorem dX2_payBackRest_20 : decode cX2_payBackRest 20 = .ok (.iaload, 1) := by decide +kernel
theorem dX2_payBackRest_21 : decode cX2_payBackRest 21 = .ok (.iload_n 2, 1) := by decide +kernel
theorem dX2_payBackRest_22 : decode cX2_payBackRest 22 = .ok (.iadd, 1) := by decide +kernel
theorem dX2_payBackRest_23 : decode cX2_payBackRest 23 = .ok (.iastore, 1) := by decide +kernel
theorem dX2_payBackRest_24 : decode cX2_payBackRest 24 = .ok (.iload_n 2, 1) := by decide +kernel
theorem dX2_payBackRest_25 : decode cX2_payBackRest 25 = .ok (.ireturn, 1) := by decide +kernel
theorem dX2_totalOf_0 : decode cX2_totalOf 0 = .ok (.iconst 0, 1) := by decide +kernel
theorem dX2_totalOf_1 : decode cX2_totalOf 1 = .ok (.istore_n 2, 1) := by decide +kernel
theorem dX2_totalOf_2 : decode cX2_totalOf 2 = .ok (.iconst 0, 1) := by decide +kernel
theorem dX2_totalOf_3 : decode cX2_totalOf 3 = .ok (.istore_n 3, 1) := by decide +kernel
theorem dX2_totalOf_4 : decode cX2_totalOf 4 = .ok (.iload_n 3, 1) := by decide +kernel
theorem dX2_totalOf_5 : decode cX2_totalOf 5 = .ok (.aload_n 0, 1) := by decide +kernel
theorem dX2_totalOf_6 : decode cX2_totalOf 6 = .ok (.getfield 37, 3) := by decide +kernel
theorem dX2_totalOf_9 : decode cX2_totalOf 9 = .ok (.if_icmp .ge 21, 3) := by decide +kernel
theorem dX2_totalOf_12 : decode cX2_totalOf 12 = .ok (.iload_n 3, 1) := by decide +kernel
theorem dX2_totalOf_13 : decode cX2_totalOf 13 = .ok (.aload_n 1, 1) := by decide +kernel
theorem dX2_totalOf_14 : decode cX2_totalOf 14 = .ok (.arraylength, 1) := by decide +kernel
theorem dX2_totalOf_15 : decode cX2_totalOf 15 = .ok (.if_icmp .ge 15, 3) := by decide +kernel
theorem dX2_totalOf_18 : decode cX2_totalOf 18 = .ok (.iload_n 2, 1) := by decide +kernel
theorem dX2_totalOf_19 : decode cX2_totalOf 19 = .ok (.aload_n 1, 1) := by decide +kernel
theorem dX2_totalOf_20 : decode cX2_totalOf 20 = .ok (.iload_n 3, 1) := by decide +kernel
theorem dX2_totalOf_21 : decode cX2_totalOf 21 = .ok (.iaload, 1) := by decide +kernel
theorem dX2_totalOf_22 : decode cX2_totalOf 22 = .ok (.iadd, 1) := by decide +kernel
theorem dX2_totalOf_23 : decode cX2_totalOf 23 = .ok (.istore_n 2, 1) := by decide +kernel
theorem dX2_totalOf_24 : decode cX2_totalOf 24 = .ok (.iinc 3 1, 3) := by decide +kernel
theorem dX2_totalOf_27 : decode cX2_totalOf 27 = .ok (.goto (-23), 3) := by decide +kernel
theorem dX2_totalOf_30 : decode cX2_totalOf 30 = .ok (.iload_n 2, 1) := by decide +kernel
theorem dX2_totalOf_31 : decode cX2_totalOf 31 = .ok (.ireturn, 1) := by decide +kernel
theorem dX2_bouncedTotal_0 : decode cX2_bouncedTotal 0 = .ok (.iconst 0, 1) := by decide +kernel
theorem dX2_bouncedTotal_1 : decode cX2_bouncedTotal 1 = .ok (.istore_n 1, 1) := by decide +kernel
theorem dX2_bouncedTotal_2 : decode cX2_bouncedTotal 2 = .ok (.iconst 0, 1) := by decide +kernel
theorem dX2_bouncedTotal_3 : decode cX2_bouncedTotal 3 = .ok (.istore_n 2, 1) := by decide +kernel
theorem dX2_bouncedTotal_4 : decode cX2_bouncedTotal 4 = .ok (.iload_n 2, 1) := by decide +kernel
theorem dX2_bouncedTotal_5 : decode cX2_bouncedTotal 5 = .ok (.aload_n 0, 1) := by decide +kernel
theorem dX2_bouncedTotal_6 : decode cX2_bouncedTotal 6 = .ok (.getfield 37, 3) := by decide +kernel
theorem dX2_bouncedTotal_9 : decode cX2_bouncedTotal 9 = .ok (.if_icmp .ge 27, 3) := by decide +kernel
theorem dX2_bouncedTotal_12 : decode cX2_bouncedTotal 12 = .ok (.aload_n 0, 1) := by decide +kernel
theorem dX2_bouncedTotal_13 : decode cX2_bouncedTotal 13 = .ok (.getfield 27, 3) := by decide +kernel
theorem dX2_bouncedTotal_16 : decode cX2_bouncedTotal 16 = .ok (.iload_n 2, 1) := by decide +kernel
theorem dX2_bouncedTotal_17 : decode cX2_bouncedTotal 17 = .ok (.baload, 1) := by decide +kernel
theorem dX2_bouncedTotal_18 : decode cX2_bouncedTotal 18 = .ok (.ifCond .eq 12, 3) := by decide +kernel
theorem dX2_bouncedTotal_21 : decode cX2_bouncedTotal 21 = .ok (.iload_n 1, 1) := by decide +kernel
theorem dX2_bouncedTotal_22 : decode cX2_bouncedTotal 22 = .ok (.aload_n 0, 1) := by decide +kernel
theorem dX2_bouncedTotal_23 : decode cX2_bouncedTotal 23 = .ok (.getfield 15, 3) := by decide +kernel
theorem dX2_bouncedTotal_26 : decode cX2_bouncedTotal 26 = .ok (.iload_n 2, 1) := by decide +kernel
theorem dX2_bouncedTotal_27 : decode cX2_bouncedTotal 27 = .ok (.iaload, 1) := by decide +kernel
theorem dX2_bouncedTotal_28 : decode cX2_bouncedTotal 28 = .ok (.iadd, 1) := by decide +kernel
theorem dX2_bouncedTotal_29 : decode cX2_bouncedTotal 29 = .ok (.istore_n 1, 1) := by decide +kernel
theorem dX2_bouncedTotal_30 : decode cX2_bouncedTotal 30 = .ok (.iinc 2 1, 3) := by decide +kernel
theorem dX2_bouncedTotal_33 : decode cX2_bouncedTotal 33 = .ok (.goto (-29), 3) := by decide +kernel
theorem dX2_bouncedTotal_36 : decode cX2_bouncedTotal 36 = .ok (.iload_n 1, 1) := by decide +kernel
theorem dX2_bouncedTotal_37 : decode cX2_bouncedTotal 37 = .ok (.ireturn, 1) := by decide +kernel

def addR (R : Nat → Nat → Int32) (n : Nat) (cu am : Int32) : Nat → Nat → Int32 := pt (pt (pt (pt R 0 n cu) 1 n am) 3 n am) 8 0 (nI (n + 1))
def addP (R : Nat → Nat → Int32) (rc b : Nat) (sm : Int32) : Nat → Nat → Int32 := pt (pt (pt (pt R 6 (40 * rc + b) (R 6 (40 * rc + b) + sm)) 7 (40 * rc + b) 1) 2 rc (R 2 rc + sm)) 3 rc (R 3 rc - sm)
def drpP (R : Nat → Nat → Int32) (rc b : Nat) : Nat → Nat → Int32 := pt (pt (pt R 2 rc (R 2 rc - R 6 (40 * rc + b))) 6 (40 * rc + b) 0) 7 (40 * rc + b) 0
def mkB (R : Nat → Nat → Int32) (rc : Nat) : Nat → Nat → Int32 := pt (pt R 3 rc 0) 5 rc 1
def pbR (R : Nat → Nat → Int32) (rc : Nat) : Nat → Nat → Int32 := pt (pt R 3 rc 0) 4 rc (R 4 rc + R 3 rc)
def bsm (R : Nat → Nat → Int32) : Nat → Int32
  | 0 => 0
  | k + 1 => if R 5 k = 0 then bsm R k else bsm R k + R 1 k
set_option maxHeartbeats 4000000 in
set_option maxRecDepth 100000 in
theorem c_X2_add (l : Launch) (D : va_G) (cI cZ : ClassId) (a : Nat → Nat) (sz : Nat) (R : Nat → Nat → Int32) (n : Nat) (cu : Int32) (am : Int32) (hR : R 8 0 = nI n) (hn : n < 30) : Met l yX2_add wsX2_add ({ frames := 0, cells := 0, slots := 0, locals := 0 } : Room) (va_Pc [.ref (a 13), .int (cu), .int (am)] (PreW D cI cZ (wRB a cI cZ R) sz)) (va_Qi (fun (r : Int32) (u : Nat → Nat → Int32) => r = nI n ∧ u = addR R n cu am) (fun (u : Nat → Nat → Int32) => PostW D cI cZ (va_A (wRB a cI cZ R) sz) (wRB a cI cZ u)) (va_A (wRB a cI cZ R) sz)) 0 0 (va_A (wRB a cI cZ R) sz) := by
  refine Met.ofW (cc := cX2_add) (maxL := 4) (ret := (some .int)) (by decide) rfl ?_
  intro p e s m args below meth c s₁ BB hml hv
  obtain ⟨rfl, hsz, hP, hK, hD0⟩ := hv
  have hx := BB.exec
  have hb := BB.bytes
  have hr := BB.returns
  have hts := atoms_spec (ws := wsX2_add) BB.pre
  have hown : s.vm.findClass RX2 = some m.cls := findClass_of_methodNamed BB.named
  have hlocks := BB.notSynchronized
  clear BB
  subst hsz
  have hD := hD0.self (sz := s.heap.size)
  clear hD0
  generalize hAe : va_A (wRB a cI cZ R) s.heap.size = A at hD ⊢
  have hA : ∀ q : Nat, s.heap.size ≤ q → A q := fun q h => by rw [← hAe]; exact Or.inr h
  clear hAe
  have hS : va_S A s.heap s.heap [] := va_S.rf
  have hl := lv_entry ([.ref (a 13), .int (cu), .int (am)]) (n := 4) (Nat.le_of_ble_eq_true rfl)
  rw [lg_entry_eq]
  generalize (lg_sl ([.ref (a 13), .int (cu), .int (am)]) ++ List.replicate (4 - (lg_sl ([.ref (a 13), .int (cu), .int (am)])).length) Slot.unset).toArray = ls at hl ⊢
  have hl : lv_has ls 4 [(0, .ref (a 13)), (1, .int (cu)), (2, .int (am))] := hl
  generalize hHe : s.heap = H at hP
  have hS : va_S A s.heap H [] := by rw [← hHe]; exact va_S.rf
  clear hHe
  generalize hLe : ([] : List Loc) = locs at hS ⊢
  clear hLe
  refine lv_aload_n hx hb dX2_add_0 rfl (lv_at hl 0 rfl) ?_
  refine va_get (D := D) (ci := 2) (v := .int (nI (n))) (C := RX2) (T := TX2) (N := 9) hx hb hts (fun w h => List.mem_cons_of_mem _ (List.mem_append_right _ h)) hown hK hP 0 rfl rfl 8 (by decide) (hts (.fieldLink RX2 37 "CashAllocator$ReceiptBook" "count" "I") (by decide +kernel)) (fun _ h9 => h9) (congrArg (fun z => some (Value.int z)) hR) dX2_add_1 ?_
  refine lv_istore_n (lv' := [(3, .int (nI (n))), (0, .ref (a 13)), (1, .int (cu)), (2, .int (am))]) hx hb dX2_add_4 rfl hl (by decide) rfl (fun ls hl => ?_)
  refine lv_aload_n hx hb dX2_add_5 rfl (lv_at hl 1 rfl) ?_
  refine va_get (D := D) (ci := 2) (v := .ref (a 14)) (C := RX2) (T := TX2) (N := 9) hx hb hts (fun w h => List.mem_cons_of_mem _ (List.mem_append_right _ h)) hown hK hP 0 rfl rfl 0 (by decide) (hts (.fieldLink RX2 9 "CashAllocator$ReceiptBook" "customer" "[I") (by decide +kernel)) (fun _ h9 => h9) rfl dX2_add_6 ?_
  refine lv_iload_n hx hb dX2_add_9 rfl (lv_at hl 0 rfl) ?_
  refine lv_iload_n hx hb dX2_add_10 rfl (lv_at hl 2 rfl) ?_
  refine zast hx hb hK hP hD hS 1 (n := 30) (f := (R 0)) rfl (n) rfl (by omega) (by decide) (wRB a cI cZ (pt R 0 (n) (cu))) rfl dX2_add_11 (fun H locs hP hD hS => ?_)
  refine lv_aload_n hx hb dX2_add_12 rfl (lv_at hl 1 rfl) ?_
  refine va_get (D := D) (ci := 2) (v := .ref (a 15)) (C := RX2) (T := TX2) (N := 9) hx hb hts (fun w h => List.mem_cons_of_mem _ (List.mem_append_right _ h)) hown hK hP 0 rfl rfl 1 (by decide) (hts (.fieldLink RX2 15 "CashAllocator$ReceiptBook" "amount" "[I") (by decide +kernel)) (fun _ h9 => h9) rfl dX2_add_13 ?_
  refine lv_iload_n hx hb dX2_add_16 rfl (lv_at hl 0 rfl) ?_
  refine lv_iload_n hx hb dX2_add_17 rfl (lv_at hl 3 rfl) ?_
  refine zast hx hb hK hP hD hS 2 (n := 30) (f := (R 1)) rfl (n) rfl (by omega) (by decide) (wRB a cI cZ (pt (pt R 0 (n) (cu)) 1 (n) (am))) rfl dX2_add_18 (fun H locs hP hD hS => ?_)
  refine lv_aload_n hx hb dX2_add_19 rfl (lv_at hl 1 rfl) ?_
  refine va_get (D := D) (ci := 2) (v := .ref (a 17)) (C := RX2) (T := TX2) (N := 9) hx hb hts (fun w h => List.mem_cons_of_mem _ (List.mem_append_right _ h)) hown hK hP 0 rfl rfl 3 (by decide) (hts (.fieldLink RX2 21 "CashAllocator$ReceiptBook" "unapplied" "[I") (by decide +kernel)) (fun _ h9 => h9) rfl dX2_add_20 ?_
  refine lv_iload_n hx hb dX2_add_23 rfl (lv_at hl 0 rfl) ?_
  refine lv_iload_n hx hb dX2_add_24 rfl (lv_at hl 3 rfl) ?_
  refine zast hx hb hK hP hD hS 4 (n := 30) (f := (R 3)) rfl (n) rfl (by omega) (by decide) (wRB a cI cZ (pt (pt (pt R 0 (n) (cu)) 1 (n) (am)) 3 (n) (am))) rfl dX2_add_25 (fun H locs hP hD hS => ?_)
  refine lv_aload_n hx hb dX2_add_26 rfl (lv_at hl 1 rfl) ?_
  refine lv_dup hx hb dX2_add_27 rfl ?_
  refine va_get (D := D) (ci := 2) (v := .int (nI (n))) (C := RX2) (T := TX2) (N := 9) hx hb hts (fun w h => List.mem_cons_of_mem _ (List.mem_append_right _ h)) hown hK hP 0 rfl rfl 8 (by decide) (hts (.fieldLink RX2 37 "CashAllocator$ReceiptBook" "count" "I") (by decide +kernel)) (fun _ h9 => h9) (congrArg (fun z => some (Value.int z)) hR) dX2_add_28 ?_
  refine lv_iconst (v := 1) hx hb dX2_add_31 (by decide) ?_
  refine lv_iadd hx hb dX2_add_32 ?_
  rw [nI_1]
  refine va_put (D := D) (ci := 2) (v := .int (nI (n + 1))) (ty := .int) (C := RX2) (T := TX2) (N := 9) hx hb hts (fun w h => List.mem_cons_of_mem _ (List.mem_append_right _ h)) tyX2 tyX2_ok nmX2 hown hK hP hD hS 0 rfl rfl 8 (by decide) (hts (.fieldLink RX2 37 "CashAllocator$ReceiptBook" "count" "I") (by decide +kernel)) (fun _ h9 => h9) rfl (by decide +kernel) rfl rfl (Nat.le_of_ble_eq_true rfl) dX2_add_33 (fun H locs hP hD hS => ?_)
  have hP : va_P D vwCl (wRB a cI cZ (pt (pt (pt (pt R 0 (n) (cu)) 1 (n) (am)) 3 (n) (am)) 8 (0) (nI (n + 1)))) H := hP
  have hD : va_D A (wRB a cI cZ (pt (pt (pt (pt R 0 (n) (cu)) 1 (n) (am)) 3 (n) (am)) 8 (0) (nI (n + 1)))) := hD
  refine lv_iload_n hx hb dX2_add_36 rfl (lv_at hl 0 rfl) ?_
  exact W.iret (v := nI (n)) hx hb hr (fun t ht hW => ⟨⟨nI (n), (pt (pt (pt (pt R 0 (n) (cu)) 1 (n) (am)) 3 (n) (am)) 8 (0) (nI (n + 1))), rfl, ⟨rfl, rfl⟩, by rw [ht]; exact hP, va_K.moved hW.alike hK, hD⟩, hS.F ht⟩) hS.2.2 dX2_add_37
set_option maxHeartbeats 4000000 in
set_option maxRecDepth 100000 in
theorem c_X2_cell (l : Launch) (D : va_G) (cI cZ : ClassId) (a : Nat → Nat) (sz : Nat) (rc : Nat) (b : Nat) : Met l yX2_cell wsX2_cell ({ frames := 0, cells := 0, slots := 0, locals := 0 } : Room) (va_Pc [.int (nI (rc)), .int (nI (b))] (PreW D cI cZ ([] : va_W) sz)) (va_Qi (fun (r : Int32) (u : Unit) => r = nI (40 * rc + b)) (fun (u : Unit) => PostW D cI cZ (va_A ([] : va_W) sz) ([] : va_W)) (va_A ([] : va_W) sz)) 0 0 (va_A ([] : va_W) sz) := by
  refine Met.ofW (cc := cX2_cell) (maxL := 2) (ret := (some .int)) (by decide) rfl ?_
  intro p e s m args below meth c s₁ BB hml hv
  obtain ⟨rfl, hsz, hP, hK, hD0⟩ := hv
  have hx := BB.exec
  have hb := BB.bytes
  have hr := BB.returns
  have hts := atoms_spec (ws := wsX2_cell) BB.pre
  have hown : s.vm.findClass RX2 = some m.cls := findClass_of_methodNamed BB.named
  have hlocks := BB.notSynchronized
  clear BB
  subst hsz
  have hD := hD0.self (sz := s.heap.size)
  clear hD0
  generalize hAe : va_A ([] : va_W) s.heap.size = A at hD ⊢
  have hA : ∀ q : Nat, s.heap.size ≤ q → A q := fun q h => by rw [← hAe]; exact Or.inr h
  clear hAe
  have hS : va_S A s.heap s.heap [] := va_S.rf
  have hl := lv_entry ([.int (nI (rc)), .int (nI (b))]) (n := 2) (Nat.le_of_ble_eq_true rfl)
  rw [lg_entry_eq]
  generalize (lg_sl ([.int (nI (rc)), .int (nI (b))]) ++ List.replicate (2 - (lg_sl ([.int (nI (rc)), .int (nI (b))])).length) Slot.unset).toArray = ls at hl ⊢
  have hl : lv_has ls 2 [(0, .int (nI (rc))), (1, .int (nI (b)))] := hl
  generalize hHe : s.heap = H at hP
  have hS : va_S A s.heap H [] := by rw [← hHe]; exact va_S.rf
  clear hHe
  generalize hLe : ([] : List Loc) = locs at hS ⊢
  clear hLe
  refine lv_iload_n hx hb dX2_cell_0 rfl (lv_at hl 0 rfl) ?_
  refine lv_bipush (v := 40) hx hb dX2_cell_1 (by decide) ?_
  refine lv_imul hx hb dX2_cell_3 ?_
  refine lv_iload_n hx hb dX2_cell_4 rfl (lv_at hl 1 rfl) ?_
  refine lv_iadd hx hb dX2_cell_5 ?_
  exact W.iret (v := ((nI (rc)) * (40)) + (nI (b))) hx hb hr (fun t ht hW => ⟨⟨((nI (rc)) * (40)) + (nI (b)), (), rfl, by rw [show (40 : Int32) = nI 40 from rfl, pk_mul, nI_add, Nat.mul_comm], by rw [ht]; exact hP, va_K.moved hW.alike hK, hD⟩, hS.F ht⟩) hS.2.2 dX2_cell_6
set_option maxHeartbeats 4000000 in
set_option maxRecDepth 100000 in
theorem c_X2_hasPaid (l : Launch) (D : va_G) (cI cZ : ClassId) (a : Nat → Nat) (sz : Nat) (R : Nat → Nat → Int32) (rc : Nat) (b : Nat) (hrc : rc < 30) (hbl : b < 40) (hz : R 7 (40 * rc + b) = 0 ∨ R 7 (40 * rc + b) = 1) : Met l yX2_hasPaid wsX2_hasPaid ({ frames := 1, cells := 0, slots := 0, locals := 21 } : Room) (va_Pc [.ref (a 13), .int (nI (rc)), .int (nI (b))] (PreW D cI cZ (wRB a cI cZ R) sz)) (va_Qi (fun (r : Int32) (u : Unit) => r = R 7 (40 * rc + b)) (fun (u : Unit) => PostW D cI cZ (va_A (wRB a cI cZ R) sz) (wRB a cI cZ R)) (va_A (wRB a cI cZ R) sz)) 0 0 (va_A (wRB a cI cZ R) sz) := by
  refine Met.ofW (cc := cX2_hasPaid) (maxL := 3) (ret := (some .boolean)) (by decide) rfl ?_
  intro p e s m args below meth c s₁ BB hml hv
  obtain ⟨rfl, hsz, hP, hK, hD0⟩ := hv
  have hx := BB.exec
  have hb := BB.bytes
  have hr := BB.returns
  have hts := atoms_spec (ws := wsX2_hasPaid) BB.pre
  have hown : s.vm.findClass RX2 = some m.cls := findClass_of_methodNamed BB.named
  have hlocks := BB.notSynchronized
  clear BB
  subst hsz
  have hD := hD0.self (sz := s.heap.size)
  clear hD0
  generalize hAe : va_A (wRB a cI cZ R) s.heap.size = A at hD ⊢
  have hA : ∀ q : Nat, s.heap.size ≤ q → A q := fun q h => by rw [← hAe]; exact Or.inr h
  clear hAe
  have hS : va_S A s.heap s.heap [] := va_S.rf
  have hl := lv_entry ([.ref (a 13), .int (nI (rc)), .int (nI (b))]) (n := 3) (Nat.le_of_ble_eq_true rfl)
  rw [lg_entry_eq]
  generalize (lg_sl ([.ref (a 13), .int (nI (rc)), .int (nI (b))]) ++ List.replicate (3 - (lg_sl ([.ref (a 13), .int (nI (rc)), .int (nI (b))])).length) Slot.unset).toArray = ls at hl ⊢
  have hl : lv_has ls 3 [(0, .ref (a 13)), (1, .int (nI (rc))), (2, .int (nI (b)))] := hl
  generalize hHe : s.heap = H at hP
  have hS : va_S A s.heap H [] := by rw [← hHe]; exact va_S.rf
  clear hHe
  generalize hLe : ([] : List Loc) = locs at hS ⊢
  clear hLe
  refine lv_aload_n hx hb dX2_hasPaid_0 rfl (lv_at hl 0 rfl) ?_
  refine va_get (D := D) (ci := 2) (v := .ref (a 21)) (C := RX2) (T := TX2) (N := 9) hx hb hts (fun w h => List.mem_cons_of_mem _ (List.mem_append_right _ h)) hown hK hP 0 rfl rfl 7 (by decide) (hts (.fieldLink RX2 34 "CashAllocator$ReceiptBook" "hasSum" "[Z") (by decide +kernel)) (fun _ h9 => h9) rfl dX2_hasPaid_1 ?_
  refine lv_iload_n hx hb dX2_hasPaid_4 rfl (lv_at hl 1 rfl) ?_
  refine lv_iload_n hx hb dX2_hasPaid_5 rfl (lv_at hl 2 rfl) ?_
  refine zcSi (wf := (fun (u : Unit) => (wRB a cI cZ R))) (List.range 9) ⟨hx, hb, hml, hown, hts⟩ (zwNo 9 (by decide) rfl hP hD hS hA) hK (c_X2_cell l D cI cZ a H.size (rc) (b) ) (cwS 2 hts gX2_hasPaid_X2_cell rfl rfl rfl (by decide +kernel) ⟨Nat.le_of_ble_eq_true rfl, Nat.le_of_ble_eq_true rfl⟩) (by decide) (fun _ => rfl) rfl hl.1 rfl (Nat.le_of_ble_eq_true rfl) dX2_hasPaid_6 ⟨Nat.le_of_ble_eq_true rfl, Nat.le_of_ble_eq_true rfl⟩ (fun r6 u H locs hw hP hD hS => ?_)
  subst hw
  refine zbld hx hb hK hP 8 (n := 1200) (f := (R 7)) rfl (40 * (rc) + (b)) rfl (by omega) (by decide) dX2_hasPaid_9 ?_
  exact W.zret (ty := .boolean) (v := R 7 (40 * (rc) + (b))) hx hb hr (by rcases hz with z | z <;> rw [z] <;> decide) (fun t ht hW => ⟨⟨R 7 (40 * (rc) + (b)), (), rfl, rfl, by rw [ht]; exact hP, va_K.moved hW.alike hK, hD⟩, hS.F ht⟩) hS.2.2 dX2_hasPaid_10
set_option maxHeartbeats 4000000 in
set_option maxRecDepth 100000 in
theorem c_X2_paidOf (l : Launch) (D : va_G) (cI cZ : ClassId) (a : Nat → Nat) (sz : Nat) (R : Nat → Nat → Int32) (rc : Nat) (b : Nat) (hrc : rc < 30) (hbl : b < 40) : Met l yX2_paidOf wsX2_paidOf ({ frames := 1, cells := 0, slots := 0, locals := 21 } : Room) (va_Pc [.ref (a 13), .int (nI (rc)), .int (nI (b))] (PreW D cI cZ (wRB a cI cZ R) sz)) (va_Qi (fun (r : Int32) (u : Unit) => r = R 6 (40 * rc + b)) (fun (u : Unit) => PostW D cI cZ (va_A (wRB a cI cZ R) sz) (wRB a cI cZ R)) (va_A (wRB a cI cZ R) sz)) 0 0 (va_A (wRB a cI cZ R) sz) := by
  refine Met.ofW (cc := cX2_paidOf) (maxL := 3) (ret := (some .int)) (by decide) rfl ?_
  intro p e s m args below meth c s₁ BB hml hv
  obtain ⟨rfl, hsz, hP, hK, hD0⟩ := hv
  have hx := BB.exec
  have hb := BB.bytes
  have hr := BB.returns
  have hts := atoms_spec (ws := wsX2_paidOf) BB.pre
  have hown : s.vm.findClass RX2 = some m.cls := findClass_of_methodNamed BB.named
  have hlocks := BB.notSynchronized
  clear BB
  subst hsz
  have hD := hD0.self (sz := s.heap.size)
  clear hD0
  generalize hAe : va_A (wRB a cI cZ R) s.heap.size = A at hD ⊢
  have hA : ∀ q : Nat, s.heap.size ≤ q → A q := fun q h => by rw [← hAe]; exact Or.inr h
  clear hAe
  have hS : va_S A s.heap s.heap [] := va_S.rf
  have hl := lv_entry ([.ref (a 13), .int (nI (rc)), .int (nI (b))]) (n := 3) (Nat.le_of_ble_eq_true rfl)
  rw [lg_entry_eq]
  generalize (lg_sl ([.ref (a 13), .int (nI (rc)), .int (nI (b))]) ++ List.replicate (3 - (lg_sl ([.ref (a 13), .int (nI (rc)), .int (nI (b))])).length) Slot.unset).toArray = ls at hl ⊢
  have hl : lv_has ls 3 [(0, .ref (a 13)), (1, .int (nI (rc))), (2, .int (nI (b)))] := hl
  generalize hHe : s.heap = H at hP
  have hS : va_S A s.heap H [] := by rw [← hHe]; exact va_S.rf
  clear hHe
  generalize hLe : ([] : List Loc) = locs at hS ⊢
  clear hLe
  refine lv_aload_n hx hb dX2_paidOf_0 rfl (lv_at hl 0 rfl) ?_
  refine va_get (D := D) (ci := 2) (v := .ref (a 20)) (C := RX2) (T := TX2) (N := 9) hx hb hts (fun w h => List.mem_cons_of_mem _ (List.mem_append_right _ h)) hown hK hP 0 rfl rfl 6 (by decide) (hts (.fieldLink RX2 31 "CashAllocator$ReceiptBook" "sums" "[I") (by decide +kernel)) (fun _ h9 => h9) rfl dX2_paidOf_1 ?_
  refine lv_iload_n hx hb dX2_paidOf_4 rfl (lv_at hl 1 rfl) ?_
  refine lv_iload_n hx hb dX2_paidOf_5 rfl (lv_at hl 2 rfl) ?_
  refine zcSi (wf := (fun (u : Unit) => (wRB a cI cZ R))) (List.range 9) ⟨hx, hb, hml, hown, hts⟩ (zwNo 9 (by decide) rfl hP hD hS hA) hK (c_X2_cell l D cI cZ a H.size (rc) (b) ) (cwS 2 hts gX2_paidOf_X2_cell rfl rfl rfl (by decide +kernel) ⟨Nat.le_of_ble_eq_true rfl, Nat.le_of_ble_eq_true rfl⟩) (by decide) (fun _ => rfl) rfl hl.1 rfl (Nat.le_of_ble_eq_true rfl) dX2_paidOf_6 ⟨Nat.le_of_ble_eq_true rfl, Nat.le_of_ble_eq_true rfl⟩ (fun r6 u H locs hw hP hD hS => ?_)
  subst hw
  refine zald hx hb hK hP 7 (n := 1200) (f := (R 6)) rfl (40 * (rc) + (b)) rfl (by omega) (by decide) dX2_paidOf_9 ?_
  exact W.iret (v := R 6 (40 * (rc) + (b))) hx hb hr (fun t ht hW => ⟨⟨R 6 (40 * (rc) + (b)), (), rfl, rfl, by rw [ht]; exact hP, va_K.moved hW.alike hK, hD⟩, hS.F ht⟩) hS.2.2 dX2_paidOf_10
set_option maxHeartbeats 4000000 in
set_option maxRecDepth 100000 in
theorem c_X2_addPayment (l : Launch) (D : va_G) (cI cZ : ClassId) (a : Nat → Nat) (sz : Nat) (R : Nat → Nat → Int32) (rc : Nat) (b : Nat) (sm : Int32) (hrc : rc < 30) (hbl : b < 40) : Met l yX2_addPayment wsX2_addPayment ({ frames := 1, cells := 0, slots := 0, locals := 21 } : Room) (va_Pc [.ref (a 13), .int (nI (rc)), .int (nI (b)), .int (sm)] (PreW D cI cZ (wRB a cI cZ R) sz)) (va_Qv (fun (u : Nat → Nat → Int32) => u = addP R rc b sm) (fun (u : Nat → Nat → Int32) => PostW D cI cZ (va_A (wRB a cI cZ R) sz) (wRB a cI cZ u)) (va_A (wRB a cI cZ R) sz)) 0 0 (va_A (wRB a cI cZ R) sz) := by
  refine Met.ofW (cc := cX2_addPayment) (maxL := 4) (ret := none) (by decide) rfl ?_
  intro p e s m args below meth c s₁ BB hml hv
  obtain ⟨rfl, hsz, hP, hK, hD0⟩ := hv
  have hx := BB.exec
  have hb := BB.bytes
  have hr := BB.returns
  have hts := atoms_spec (ws := wsX2_addPayment) BB.pre
  have hown : s.vm.findClass RX2 = some m.cls := findClass_of_methodNamed BB.named
  have hlocks := BB.notSynchronized
  clear BB
  subst hsz
  have hD := hD0.self (sz := s.heap.size)
  clear hD0
  generalize hAe : va_A (wRB a cI cZ R) s.heap.size = A at hD ⊢
  have hA : ∀ q : Nat, s.heap.size ≤ q → A q := fun q h => by rw [← hAe]; exact Or.inr h
  clear hAe
  have hS : va_S A s.heap s.heap [] := va_S.rf
  have hl := lv_entry ([.ref (a 13), .int (nI (rc)), .int (nI (b)), .int (sm)]) (n := 4) (Nat.le_of_ble_eq_true rfl)
  rw [lg_entry_eq]
  generalize (lg_sl ([.ref (a 13), .int (nI (rc)), .int (nI (b)), .int (sm)]) ++ List.replicate (4 - (lg_sl ([.ref (a 13), .int (nI (rc)), .int (nI (b)), .int (sm)])).length) Slot.unset).toArray = ls at hl ⊢
  have hl : lv_has ls 4 [(0, .ref (a 13)), (1, .int (nI (rc))), (2, .int (nI (b))), (3, .int (sm))] := hl
  generalize hHe : s.heap = H at hP
  have hS : va_S A s.heap H [] := by rw [← hHe]; exact va_S.rf
  clear hHe
  generalize hLe : ([] : List Loc) = locs at hS ⊢
  clear hLe
  refine lv_aload_n hx hb dX2_addPayment_0 rfl (lv_at hl 0 rfl) ?_
  refine va_get (D := D) (ci := 2) (v := .ref (a 20)) (C := RX2) (T := TX2) (N := 9) hx hb hts (fun w h => List.mem_cons_of_mem _ (List.mem_append_right _ h)) hown hK hP 0 rfl rfl 6 (by decide) (hts (.fieldLink RX2 31 "CashAllocator$ReceiptBook" "sums" "[I") (by decide +kernel)) (fun _ h9 => h9) rfl dX2_addPayment_1 ?_
  refine lv_iload_n hx hb dX2_addPayment_4 rfl (lv_at hl 1 rfl) ?_
  refine lv_iload_n hx hb dX2_addPayment_5 rfl (lv_at hl 2 rfl) ?_
  refine zcSi (wf := (fun (u : Unit) => (wRB a cI cZ R))) (List.range 9) ⟨hx, hb, hml, hown, hts⟩ (zwNo 9 (by decide) rfl hP hD hS hA) hK (c_X2_cell l D cI cZ a H.size (rc) (b) ) (cwS 2 hts gX2_addPayment_X2_cell rfl rfl rfl (by decide +kernel) ⟨Nat.le_of_ble_eq_true rfl, Nat.le_of_ble_eq_true rfl⟩) (by decide) (fun _ => rfl) rfl hl.1 rfl (Nat.le_of_ble_eq_true rfl) dX2_addPayment_6 ⟨Nat.le_of_ble_eq_true rfl, Nat.le_of_ble_eq_true rfl⟩ (fun r6 u H locs hw hP hD hS => ?_)
  subst hw
  refine lv_dup2_11 hx hb dX2_addPayment_9 rfl rfl ?_
  refine zald hx hb hK hP 7 (n := 1200) (f := (R 6)) rfl (40 * (rc) + (b)) rfl (by omega) (by decide) dX2_addPayment_10 ?_
  refine lv_iload_n hx hb dX2_addPayment_11 rfl (lv_at hl 3 rfl) ?_
  refine lv_iadd hx hb dX2_addPayment_12 ?_
  refine zast hx hb hK hP hD hS 7 (n := 1200) (f := (R 6)) rfl (40 * (rc) + (b)) rfl (by omega) (by decide) (wRB a cI cZ (pt R 6 (40 * (rc) + (b)) ((R 6 (40 * (rc) + (b))) + (sm)))) rfl dX2_addPayment_13 (fun H locs hP hD hS => ?_)
  refine lv_aload_n hx hb dX2_addPayment_14 rfl (lv_at hl 0 rfl) ?_
  refine va_get (D := D) (ci := 2) (v := .ref (a 21)) (C := RX2) (T := TX2) (N := 9) hx hb hts (fun w h => List.mem_cons_of_mem _ (List.mem_append_right _ h)) hown hK hP 0 rfl rfl 7 (by decide) (hts (.fieldLink RX2 34 "CashAllocator$ReceiptBook" "hasSum" "[Z") (by decide +kernel)) (fun _ h9 => h9) rfl dX2_addPayment_15 ?_
  refine lv_iload_n hx hb dX2_addPayment_18 rfl (lv_at hl 1 rfl) ?_
  refine lv_iload_n hx hb dX2_addPayment_19 rfl (lv_at hl 2 rfl) ?_
  refine zcSi (wf := (fun (u : Unit) => (wRB a cI cZ (pt R 6 (40 * (rc) + (b)) ((R 6 (40 * (rc) + (b))) + (sm)))))) (List.range 9) ⟨hx, hb, hml, hown, hts⟩ (zwNo 9 (by decide) rfl hP hD hS hA) hK (c_X2_cell l D cI cZ a H.size (rc) (b) ) (cwS 2 hts gX2_addPayment_X2_cell rfl rfl rfl (by decide +kernel) ⟨Nat.le_of_ble_eq_true rfl, Nat.le_of_ble_eq_true rfl⟩) (by decide) (fun _ => rfl) rfl hl.1 rfl (Nat.le_of_ble_eq_true rfl) dX2_addPayment_20 ⟨Nat.le_of_ble_eq_true rfl, Nat.le_of_ble_eq_true rfl⟩ (fun r20 u H locs hw hP hD hS => ?_)
  subst hw
  refine lv_iconst (v := 1) hx hb dX2_addPayment_23 (by decide) ?_
  refine zbst hx hb hK hP hD hS 8 (n := 1200) (f := (R 7)) rfl (40 * (rc) + (b)) rfl (by omega) (by decide) (by decide) (wRB a cI cZ (pt (pt R 6 (40 * (rc) + (b)) ((R 6 (40 * (rc) + (b))) + (sm))) 7 (40 * (rc) + (b)) (1))) rfl dX2_addPayment_24 (fun H locs hP hD hS => ?_)
  refine lv_aload_n hx hb dX2_addPayment_25 rfl (lv_at hl 0 rfl) ?_
  refine va_get (D := D) (ci := 2) (v := .ref (a 16)) (C := RX2) (T := TX2) (N := 9) hx hb hts (fun w h => List.mem_cons_of_mem _ (List.mem_append_right _ h)) hown hK hP 0 rfl rfl 2 (by decide) (hts (.fieldLink RX2 18 "CashAllocator$ReceiptBook" "applied" "[I") (by decide +kernel)) (fun _ h9 => h9) rfl dX2_addPayment_26 ?_
  refine lv_iload_n hx hb dX2_addPayment_29 rfl (lv_at hl 1 rfl) ?_
  refine lv_dup2_11 hx hb dX2_addPayment_30 rfl rfl ?_
  refine zald hx hb hK hP 3 (n := 30) (f := (R 2)) rfl (rc) rfl (by omega) (by decide) dX2_addPayment_31 ?_
  refine lv_iload_n hx hb dX2_addPayment_32 rfl (lv_at hl 3 rfl) ?_
  refine lv_iadd hx hb dX2_addPayment_33 ?_
  refine zast hx hb hK hP hD hS 3 (n := 30) (f := (R 2)) rfl (rc) rfl (by omega) (by decide) (wRB a cI cZ (pt (pt (pt R 6 (40 * (rc) + (b)) ((R 6 (40 * (rc) + (b))) + (sm))) 7 (40 * (rc) + (b)) (1)) 2 (rc) ((R 2 (rc)) + (sm)))) rfl dX2_addPayment_34 (fun H locs hP hD hS => ?_)
  refine lv_aload_n hx hb dX2_addPayment_35 rfl (lv_at hl 0 rfl) ?_
  refine va_get (D := D) (ci := 2) (v := .ref (a 17)) (C := RX2) (T := TX2) (N := 9) hx hb hts (fun w h => List.mem_cons_of_mem _ (List.mem_append_right _ h)) hown hK hP 0 rfl rfl 3 (by decide) (hts (.fieldLink RX2 21 "CashAllocator$ReceiptBook" "unapplied" "[I") (by decide +kernel)) (fun _ h9 => h9) rfl dX2_addPayment_36 ?_
  refine lv_iload_n hx hb dX2_addPayment_39 rfl (lv_at hl 1 rfl) ?_
  refine lv_dup2_11 hx hb dX2_addPayment_40 rfl rfl ?_
  refine zald hx hb hK hP 4 (n := 30) (f := (R 3)) rfl (rc) rfl (by omega) (by decide) dX2_addPayment_41 ?_
  refine lv_iload_n hx hb dX2_addPayment_42 rfl (lv_at hl 3 rfl) ?_
  refine lv_isub hx hb dX2_addPayment_43 ?_
  refine zast hx hb hK hP hD hS 4 (n := 30) (f := (R 3)) rfl (rc) rfl (by omega) (by decide) (wRB a cI cZ (pt (pt (pt (pt R 6 (40 * (rc) + (b)) ((R 6 (40 * (rc) + (b))) + (sm))) 7 (40 * (rc) + (b)) (1)) 2 (rc) ((R 2 (rc)) + (sm))) 3 (rc) ((R 3 (rc)) - (sm)))) rfl dX2_addPayment_44 (fun H locs hP hD hS => ?_)
  exact W.vret hx hb hr (fun t ht hW => ⟨⟨(pt (pt (pt (pt R 6 (40 * (rc) + (b)) ((R 6 (40 * (rc) + (b))) + (sm))) 7 (40 * (rc) + (b)) (1)) 2 (rc) ((R 2 (rc)) + (sm))) 3 (rc) ((R 3 (rc)) - (sm))), rfl, rfl, by rw [ht]; exact hP, va_K.moved hW.alike hK, hD⟩, hS.F ht⟩) hS.2.2 dX2_addPayment_45
set_option maxHeartbeats 4000000 in
set_option maxRecDepth 100000 in
theorem c_X2_dropPayment (l : Launch) (D : va_G) (cI cZ : ClassId) (a : Nat → Nat) (sz : Nat) (R : Nat → Nat → Int32) (rc : Nat) (b : Nat) (hrc : rc < 30) (hbl : b < 40) : Met l yX2_dropPayment wsX2_dropPayment ({ frames := 1, cells := 0, slots := 0, locals := 21 } : Room) (va_Pc [.ref (a 13), .int (nI (rc)), .int (nI (b))] (PreW D cI cZ (wRB a cI cZ R) sz)) (va_Qv (fun (u : Nat → Nat → Int32) => u = drpP R rc b) (fun (u : Nat → Nat → Int32) => PostW D cI cZ (va_A (wRB a cI cZ R) sz) (wRB a cI cZ u)) (va_A (wRB a cI cZ R) sz)) 0 0 (va_A (wRB a cI cZ R) sz) := by
  refine Met.ofW (cc := cX2_dropPayment) (maxL := 3) (ret := none) (by decide) rfl ?_
  intro p e s m args below meth c s₁ BB hml hv
  obtain ⟨rfl, hsz, hP, hK, hD0⟩ := hv
  have hx := BB.exec
  have hb := BB.bytes
  have hr := BB.returns
  have hts := atoms_spec (ws := wsX2_dropPayment) BB.pre
  have hown : s.vm.findClass RX2 = some m.cls := findClass_of_methodNamed BB.named
  have hlocks := BB.notSynchronized
  clear BB
  subst hsz
  have hD := hD0.self (sz := s.heap.size)
  clear hD0
  generalize hAe : va_A (wRB a cI cZ R) s.heap.size = A at hD ⊢
  have hA : ∀ q : Nat, s.heap.size ≤ q → A q := fun q h => by rw [← hAe]; exact Or.inr h
  clear hAe
  have hS : va_S A s.heap s.heap [] := va_S.rf
  have hl := lv_entry ([.ref (a 13), .int (nI (rc)), .int (nI (b))]) (n := 3) (Nat.le_of_ble_eq_true rfl)
  rw [lg_entry_eq]
  generalize (lg_sl ([.ref (a 13), .int (nI (rc)), .int (nI (b))]) ++ List.replicate (3 - (lg_sl ([.ref (a 13), .int (nI (rc)), .int (nI (b))])).length) Slot.unset).toArray = ls at hl ⊢
  have hl : lv_has ls 3 [(0, .ref (a 13)), (1, .int (nI (rc))), (2, .int (nI (b)))] := hl
  generalize hHe : s.heap = H at hP
  have hS : va_S A s.heap H [] := by rw [← hHe]; exact va_S.rf
  clear hHe
  generalize hLe : ([] : List Loc) = locs at hS ⊢
  clear hLe
  refine lv_aload_n hx hb dX2_dropPayment_0 rfl (lv_at hl 0 rfl) ?_
  refine va_get (D := D) (ci := 2) (v := .ref (a 16)) (C := RX2) (T := TX2) (N := 9) hx hb hts (fun w h => List.mem_cons_of_mem _ (List.mem_append_right _ h)) hown hK hP 0 rfl rfl 2 (by decide) (hts (.fieldLink RX2 18 "CashAllocator$ReceiptBook" "applied" "[I") (by decide +kernel)) (fun _ h9 => h9) rfl dX2_dropPayment_1 ?_
  refine lv_iload_n hx hb dX2_dropPayment_4 rfl (lv_at hl 1 rfl) ?_
  refine lv_dup2_11 hx hb dX2_dropPayment_5 rfl rfl ?_
  refine zald hx hb hK hP 3 (n := 30) (f := (R 2)) rfl (rc) rfl (by omega) (by decide) dX2_dropPayment_6 ?_
  refine lv_aload_n hx hb dX2_dropPayment_7 rfl (lv_at hl 0 rfl) ?_
  refine va_get (D := D) (ci := 2) (v := .ref (a 20)) (C := RX2) (T := TX2) (N := 9) hx hb hts (fun w h => List.mem_cons_of_mem _ (List.mem_append_right _ h)) hown hK hP 0 rfl rfl 6 (by decide) (hts (.fieldLink RX2 31 "CashAllocator$ReceiptBook" "sums" "[I") (by decide +kernel)) (fun _ h9 => h9) rfl dX2_dropPayment_8 ?_
  refine lv_iload_n hx hb dX2_dropPayment_11 rfl (lv_at hl 1 rfl) ?_
  refine lv_iload_n hx hb dX2_dropPayment_12 rfl (lv_at hl 2 rfl) ?_
  refine zcSi (wf := (fun (u : Unit) => (wRB a cI cZ R))) (List.range 9) ⟨hx, hb, hml, hown, hts⟩ (zwNo 9 (by decide) rfl hP hD hS hA) hK (c_X2_cell l D cI cZ a H.size (rc) (b) ) (cwS 2 hts gX2_dropPayment_X2_cell rfl rfl rfl (by decide +kernel) ⟨Nat.le_of_ble_eq_true rfl, Nat.le_of_ble_eq_true rfl⟩) (by decide) (fun _ => rfl) rfl hl.1 rfl (Nat.le_of_ble_eq_true rfl) dX2_dropPayment_13 ⟨Nat.le_of_ble_eq_true rfl, Nat.le_of_ble_eq_true rfl⟩ (fun r13 u H locs hw hP hD hS => ?_)
  subst hw
  refine zald hx hb hK hP 7 (n := 1200) (f := (R 6)) rfl (40 * (rc) + (b)) rfl (by omega) (by decide) dX2_dropPayment_16 ?_
  refine lv_isub hx hb dX2_dropPayment_17 ?_
  refine zast hx hb hK hP hD hS 3 (n := 30) (f := (R 2)) rfl (rc) rfl (by omega) (by decide) (wRB a cI cZ (pt R 2 (rc) ((R 2 (rc)) - (R 6 (40 * (rc) + (b)))))) rfl dX2_dropPayment_18 (fun H locs hP hD hS => ?_)
  refine lv_aload_n hx hb dX2_dropPayment_19 rfl (lv_at hl 0 rfl) ?_
  refine va_get (D := D) (ci := 2) (v := .ref (a 20)) (C := RX2) (T := TX2) (N := 9) hx hb hts (fun w h => List.mem_cons_of_mem _ (List.mem_append_right _ h)) hown hK hP 0 rfl rfl 6 (by decide) (hts (.fieldLink RX2 31 "CashAllocator$ReceiptBook" "sums" "[I") (by decide +kernel)) (fun _ h9 => h9) rfl dX2_dropPayment_20 ?_
  refine lv_iload_n hx hb dX2_dropPayment_23 rfl (lv_at hl 1 rfl) ?_
  refine lv_iload_n hx hb dX2_dropPayment_24 rfl (lv_at hl 2 rfl) ?_
  refine zcSi (wf := (fun (u : Unit) => (wRB a cI cZ (pt R 2 (rc) ((R 2 (rc)) - (R 6 (40 * (rc) + (b)))))))) (List.range 9) ⟨hx, hb, hml, hown, hts⟩ (zwNo 9 (by decide) rfl hP hD hS hA) hK (c_X2_cell l D cI cZ a H.size (rc) (b) ) (cwS 2 hts gX2_dropPayment_X2_cell rfl rfl rfl (by decide +kernel) ⟨Nat.le_of_ble_eq_true rfl, Nat.le_of_ble_eq_true rfl⟩) (by decide) (fun _ => rfl) rfl hl.1 rfl (Nat.le_of_ble_eq_true rfl) dX2_dropPayment_25 ⟨Nat.le_of_ble_eq_true rfl, Nat.le_of_ble_eq_true rfl⟩ (fun r25 u H locs hw hP hD hS => ?_)
  subst hw
  refine lv_iconst (v := 0) hx hb dX2_dropPayment_28 (by decide) ?_
  refine zast hx hb hK hP hD hS 7 (n := 1200) (f := (R 6)) rfl (40 * (rc) + (b)) rfl (by omega) (by decide) (wRB a cI cZ (pt (pt R 2 (rc) ((R 2 (rc)) - (R 6 (40 * (rc) + (b))))) 6 (40 * (rc) + (b)) (0))) rfl dX2_dropPayment_29 (fun H locs hP hD hS => ?_)
  refine lv_aload_n hx hb dX2_dropPayment_30 rfl (lv_at hl 0 rfl) ?_
  refine va_get (D := D) (ci := 2) (v := .ref (a 21)) (C := RX2) (T := TX2) (N := 9) hx hb hts (fun w h => List.mem_cons_of_mem _ (List.mem_append_right _ h)) hown hK hP 0 rfl rfl 7 (by decide) (hts (.fieldLink RX2 34 "CashAllocator$ReceiptBook" "hasSum" "[Z") (by decide +kernel)) (fun _ h9 => h9) rfl dX2_dropPayment_31 ?_
  refine lv_iload_n hx hb dX2_dropPayment_34 rfl (lv_at hl 1 rfl) ?_
  refine lv_iload_n hx hb dX2_dropPayment_35 rfl (lv_at hl 2 rfl) ?_
  refine zcSi (wf := (fun (u : Unit) => (wRB a cI cZ (pt (pt R 2 (rc) ((R 2 (rc)) - (R 6 (40 * (rc) + (b))))) 6 (40 * (rc) + (b)) (0))))) (List.range 9) ⟨hx, hb, hml, hown, hts⟩ (zwNo 9 (by decide) rfl hP hD hS hA) hK (c_X2_cell l D cI cZ a H.size (rc) (b) ) (cwS 2 hts gX2_dropPayment_X2_cell rfl rfl rfl (by decide +kernel) ⟨Nat.le_of_ble_eq_true rfl, Nat.le_of_ble_eq_true rfl⟩) (by decide) (fun _ => rfl) rfl hl.1 rfl (Nat.le_of_ble_eq_true rfl) dX2_dropPayment_36 ⟨Nat.le_of_ble_eq_true rfl, Nat.le_of_ble_eq_true rfl⟩ (fun r36 u H locs hw hP hD hS => ?_)
  subst hw
  refine lv_iconst (v := 0) hx hb dX2_dropPayment_39 (by decide) ?_
  refine zbst hx hb hK hP hD hS 8 (n := 1200) (f := (R 7)) rfl (40 * (rc) + (b)) rfl (by omega) (by decide) (by decide) (wRB a cI cZ (pt (pt (pt R 2 (rc) ((R 2 (rc)) - (R 6 (40 * (rc) + (b))))) 6 (40 * (rc) + (b)) (0)) 7 (40 * (rc) + (b)) (0))) rfl dX2_dropPayment_40 (fun H locs hP hD hS => ?_)
  exact W.vret hx hb hr (fun t ht hW => ⟨⟨(pt (pt (pt R 2 (rc) ((R 2 (rc)) - (R 6 (40 * (rc) + (b))))) 6 (40 * (rc) + (b)) (0)) 7 (40 * (rc) + (b)) (0)), rfl, rfl, by rw [ht]; exact hP, va_K.moved hW.alike hK, hD⟩, hS.F ht⟩) hS.2.2 dX2_dropPayment_41
set_option maxHeartbeats 4000000 in
set_option maxRecDepth 100000 in
theorem c_X2_markBounced (l : Launch) (D : va_G) (cI cZ : ClassId) (a : Nat → Nat) (sz : Nat) (R : Nat → Nat → Int32) (rc : Nat) (hrc : rc < 30) : Met l yX2_markBounced wsX2_markBounced ({ frames := 0, cells := 0, slots := 0, locals := 0 } : Room) (va_Pc [.ref (a 13), .int (nI (rc))] (PreW D cI cZ (wRB a cI cZ R) sz)) (va_Qv (fun (u : Nat → Nat → Int32) => u = mkB R rc) (fun (u : Nat → Nat → Int32) => PostW D cI cZ (va_A (wRB a cI cZ R) sz) (wRB a cI cZ u)) (va_A (wRB a cI cZ R) sz)) 0 0 (va_A (wRB a cI cZ R) sz) := by
  refine Met.ofW (cc := cX2_markBounced) (maxL := 2) (ret := none) (by decide) rfl ?_
  intro p e s m args below meth c s₁ BB hml hv
  obtain ⟨rfl, hsz, hP, hK, hD0⟩ := hv
  have hx := BB.exec
  have hb := BB.bytes
  have hr := BB.returns
  have hts := atoms_spec (ws := wsX2_markBounced) BB.pre
  have hown : s.vm.findClass RX2 = some m.cls := findClass_of_methodNamed BB.named
  have hlocks := BB.notSynchronized
  clear BB
  subst hsz
  have hD := hD0.self (sz := s.heap.size)
  clear hD0
  generalize hAe : va_A (wRB a cI cZ R) s.heap.size = A at hD ⊢
  have hA : ∀ q : Nat, s.heap.size ≤ q → A q := fun q h => by rw [← hAe]; exact Or.inr h
  clear hAe
  have hS : va_S A s.heap s.heap [] := va_S.rf
  have hl := lv_entry ([.ref (a 13), .int (nI (rc))]) (n := 2) (Nat.le_of_ble_eq_true rfl)
  rw [lg_entry_eq]
  generalize (lg_sl ([.ref (a 13), .int (nI (rc))]) ++ List.replicate (2 - (lg_sl ([.ref (a 13), .int (nI (rc))])).length) Slot.unset).toArray = ls at hl ⊢
  have hl : lv_has ls 2 [(0, .ref (a 13)), (1, .int (nI (rc)))] := hl
  generalize hHe : s.heap = H at hP
  have hS : va_S A s.heap H [] := by rw [← hHe]; exact va_S.rf
  clear hHe
  generalize hLe : ([] : List Loc) = locs at hS ⊢
  clear hLe
  refine lv_aload_n hx hb dX2_markBounced_0 rfl (lv_at hl 0 rfl) ?_
  refine va_get (D := D) (ci := 2) (v := .ref (a 17)) (C := RX2) (T := TX2) (N := 9) hx hb hts (fun w h => List.mem_cons_of_mem _ (List.mem_append_right _ h)) hown hK hP 0 rfl rfl 3 (by decide) (hts (.fieldLink RX2 21 "CashAllocator$ReceiptBook" "unapplied" "[I") (by decide +kernel)) (fun _ h9 => h9) rfl dX2_markBounced_1 ?_
  refine lv_iload_n hx hb dX2_markBounced_4 rfl (lv_at hl 1 rfl) ?_
  refine lv_iconst (v := 0) hx hb dX2_markBounced_5 (by decide) ?_
  refine zast hx hb hK hP hD hS 4 (n := 30) (f := (R 3)) rfl (rc) rfl (by omega) (by decide) (wRB a cI cZ (pt R 3 (rc) (0))) rfl dX2_markBounced_6 (fun H locs hP hD hS => ?_)
  refine lv_aload_n hx hb dX2_markBounced_7 rfl (lv_at hl 0 rfl) ?_
  refine va_get (D := D) (ci := 2) (v := .ref (a 19)) (C := RX2) (T := TX2) (N := 9) hx hb hts (fun w h => List.mem_cons_of_mem _ (List.mem_append_right _ h)) hown hK hP 0 rfl rfl 5 (by decide) (hts (.fieldLink RX2 27 "CashAllocator$ReceiptBook" "isBounced" "[Z") (by decide +kernel)) (fun _ h9 => h9) rfl dX2_markBounced_8 ?_
  refine lv_iload_n hx hb dX2_markBounced_11 rfl (lv_at hl 1 rfl) ?_
  refine lv_iconst (v := 1) hx hb dX2_markBounced_12 (by decide) ?_
  refine zbst hx hb hK hP hD hS 6 (n := 30) (f := (R 5)) rfl (rc) rfl (by omega) (by decide) (by decide) (wRB a cI cZ (pt (pt R 3 (rc) (0)) 5 (rc) (1))) rfl dX2_markBounced_13 (fun H locs hP hD hS => ?_)
  exact W.vret hx hb hr (fun t ht hW => ⟨⟨(pt (pt R 3 (rc) (0)) 5 (rc) (1)), rfl, rfl, by rw [ht]; exact hP, va_K.moved hW.alike hK, hD⟩, hS.F ht⟩) hS.2.2 dX2_markBounced_14
set_option maxHeartbeats 4000000 in
set_option maxRecDepth 100000 in
theorem c_X2_payBackRest (l : Launch) (D : va_G) (cI cZ : ClassId) (a : Nat → Nat) (sz : Nat) (R : Nat → Nat → Int32) (rc : Nat) (hrc : rc < 30) : Met l yX2_payBackRest wsX2_payBackRest ({ frames := 0, cells := 0, slots := 0, locals := 0 } : Room) (va_Pc [.ref (a 13), .int (nI (rc))] (PreW D cI cZ (wRB a cI cZ R) sz)) (va_Qi (fun (r : Int32) (u : Nat → Nat → Int32) => r = R 3 rc ∧ u = pbR R rc) (fun (u : Nat → Nat → Int32) => PostW D cI cZ (va_A (wRB a cI cZ R) sz) (wRB a cI cZ u)) (va_A (wRB a cI cZ R) sz)) 0 0 (va_A (wRB a cI cZ R) sz) := by
  refine Met.ofW (cc := cX2_payBackRest) (maxL := 3) (ret := (some .int)) (by decide) rfl ?_
  intro p e s m args below meth c s₁ BB hml hv
  obtain ⟨rfl, hsz, hP, hK, hD0⟩ := hv
  have hx := BB.exec
  have hb := BB.bytes
  have hr := BB.returns
  have hts := atoms_spec (ws := wsX2_payBackRest) BB.pre
  have hown : s.vm.findClass RX2 = some m.cls := findClass_of_methodNamed BB.named
  have hlocks := BB.notSynchronized
  clear BB
  subst hsz
  have hD := hD0.self (sz := s.heap.size)
  clear hD0
  generalize hAe : va_A (wRB a cI cZ R) s.heap.size = A at hD ⊢
  have hA : ∀ q : Nat, s.heap.size ≤ q → A q := fun q h => by rw [← hAe]; exact Or.inr h
  clear hAe
  have hS : va_S A s.heap s.heap [] := va_S.rf
  have hl := lv_entry ([.ref (a 13), .int (nI (rc))]) (n := 3) (Nat.le_of_ble_eq_true rfl)
  rw [lg_entry_eq]
  generalize (lg_sl ([.ref (a 13), .int (nI (rc))]) ++ List.replicate (3 - (lg_sl ([.ref (a 13), .int (nI (rc))])).length) Slot.unset).toArray = ls at hl ⊢
  have hl : lv_has ls 3 [(0, .ref (a 13)), (1, .int (nI (rc)))] := hl
  generalize hHe : s.heap = H at hP
  have hS : va_S A s.heap H [] := by rw [← hHe]; exact va_S.rf
  clear hHe
  generalize hLe : ([] : List Loc) = locs at hS ⊢
  clear hLe
  refine lv_aload_n hx hb dX2_payBackRest_0 rfl (lv_at hl 0 rfl) ?_
  refine va_get (D := D) (ci := 2) (v := .ref (a 17)) (C := RX2) (T := TX2) (N := 9) hx hb hts (fun w h => List.mem_cons_of_mem _ (List.mem_append_right _ h)) hown hK hP 0 rfl rfl 3 (by decide) (hts (.fieldLink RX2 21 "CashAllocator$ReceiptBook" "unapplied" "[I") (by decide +kernel)) (fun _ h9 => h9) rfl dX2_payBackRest_1 ?_
  refine lv_iload_n hx hb dX2_payBackRest_4 rfl (lv_at hl 1 rfl) ?_
  refine zald hx hb hK hP 4 (n := 30) (f := (R 3)) rfl (rc) rfl (by omega) (by decide) dX2_payBackRest_5 ?_
  refine lv_istore_n (lv' := [(2, .int (R 3 (rc))), (0, .ref (a 13)), (1, .int (nI (rc)))]) hx hb dX2_payBackRest_6 rfl hl (by decide) rfl (fun ls hl => ?_)
  refine lv_aload_n hx hb dX2_payBackRest_7 rfl (lv_at hl 1 rfl) ?_
  refine va_get (D := D) (ci := 2) (v := .ref (a 17)) (C := RX2) (T := TX2) (N := 9) hx hb hts (fun w h => List.mem_cons_of_mem _ (List.mem_append_right _ h)) hown hK hP 0 rfl rfl 3 (by decide) (hts (.fieldLink RX2 21 "CashAllocator$ReceiptBook" "unapplied" "[I") (by decide +kernel)) (fun _ h9 => h9) rfl dX2_payBackRest_8 ?_
  refine lv_iload_n hx hb dX2_payBackRest_11 rfl (lv_at hl 2 rfl) ?_
  refine lv_iconst (v := 0) hx hb dX2_payBackRest_12 (by decide) ?_
  refine zast hx hb hK hP hD hS 4 (n := 30) (f := (R 3)) rfl (rc) rfl (by omega) (by decide) (wRB a cI cZ (pt R 3 (rc) (0))) rfl dX2_payBackRest_13 (fun H locs hP hD hS => ?_)
  refine lv_aload_n hx hb dX2_payBackRest_14 rfl (lv_at hl 1 rfl) ?_
  refine va_get (D := D) (ci := 2) (v := .ref (a 18)) (C := RX2) (T := TX2) (N := 9) hx hb hts (fun w h => List.mem_cons_of_mem _ (List.mem_append_right _ h)) hown hK hP 0 rfl rfl 4 (by decide) (hts (.fieldLink RX2 24 "CashAllocator$ReceiptBook" "paidBack" "[I") (by decide +kernel)) (fun _ h9 => h9) rfl dX2_payBackRest_15 ?_
  refine lv_iload_n hx hb dX2_payBackRest_18 rfl (lv_at hl 2 rfl) ?_
  refine lv_dup2_11 hx hb dX2_payBackRest_19 rfl rfl ?_
  refine zald hx hb hK hP 5 (n := 30) (f := (R 4)) rfl (rc) rfl (by omega) (by decide) dX2_payBackRest_20 ?_
  refine lv_iload_n hx hb dX2_payBackRest_21 rfl (lv_at hl 0 rfl) ?_
  refine lv_iadd hx hb dX2_payBackRest_22 ?_
  refine zast hx hb hK hP hD hS 5 (n := 30) (f := (R 4)) rfl (rc) rfl (by omega) (by decide) (wRB a cI cZ (pt (pt R 3 (rc) (0)) 4 (rc) ((R 4 (rc)) + (R 3 (rc))))) rfl dX2_payBackRest_23 (fun H locs hP hD hS => ?_)
  refine lv_iload_n hx hb dX2_payBackRest_24 rfl (lv_at hl 0 rfl) ?_
  exact W.iret (v := R 3 (rc)) hx hb hr (fun t ht hW => ⟨⟨R 3 (rc), (pt (pt R 3 (rc) (0)) 4 (rc) ((R 4 (rc)) + (R 3 (rc)))), rfl, ⟨rfl, rfl⟩, by rw [ht]; exact hP, va_K.moved hW.alike hK, hD⟩, hS.F ht⟩) hS.2.2 dX2_payBackRest_25
set_option maxHeartbeats 4000000 in
set_option maxRecDepth 100000 in
theorem c_X2_totalOf_1 (l : Launch) (D : va_G) (cI cZ : ClassId) (a : Nat → Nat) (sz : Nat) (R : Nat → Nat → Int32) (n : Nat) (hR : R 8 0 = nI n) (hn : n ≤ 30) : Met l yX2_totalOf wsX2_totalOf ({ frames := 0, cells := 0, slots := 0, locals := 0 } : Room) (va_Pc [.ref (a 13), .ref (a 15)] (PreW D cI cZ (wRB a cI cZ R) sz)) (va_Qi (fun (r : Int32) (u : Unit) => r = l_sum (R 1) n) (fun (u : Unit) => PostW D cI cZ (va_A (wRB a cI cZ R) sz) (wRB a cI cZ R)) (va_A (wRB a cI cZ R) sz)) 0 0 (va_A (wRB a cI cZ R) sz) := by
  refine Met.ofW (cc := cX2_totalOf) (maxL := 4) (ret := (some .int)) (by decide) rfl ?_
  intro p e s m args below meth c s₁ BB hml hv
  obtain ⟨rfl, hsz, hP, hK, hD0⟩ := hv
  have hx := BB.exec
  have hb := BB.bytes
  have hr := BB.returns
  have hts := atoms_spec (ws := wsX2_totalOf) BB.pre
  have hown : s.vm.findClass RX2 = some m.cls := findClass_of_methodNamed BB.named
  have hlocks := BB.notSynchronized
  clear BB
  subst hsz
  have hD := hD0.self (sz := s.heap.size)
  clear hD0
  generalize hAe : va_A (wRB a cI cZ R) s.heap.size = A at hD ⊢
  have hA : ∀ q : Nat, s.heap.size ≤ q → A q := fun q h => by rw [← hAe]; exact Or.inr h
  clear hAe
  have hS : va_S A s.heap s.heap [] := va_S.rf
  have hl := lv_entry ([.ref (a 13), .ref (a 15)]) (n := 4) (Nat.le_of_ble_eq_true rfl)
  rw [lg_entry_eq]
  generalize (lg_sl ([.ref (a 13), .ref (a 15)]) ++ List.replicate (4 - (lg_sl ([.ref (a 13), .ref (a 15)])).length) Slot.unset).toArray = ls at hl ⊢
  have hl : lv_has ls 4 [(0, .ref (a 13)), (1, .ref (a 15))] := hl
  generalize hHe : s.heap = H at hP
  have hS : va_S A s.heap H [] := by rw [← hHe]; exact va_S.rf
  clear hHe
  generalize hLe : ([] : List Loc) = locs at hS ⊢
  clear hLe
  refine lv_iconst (v := 0) hx hb dX2_totalOf_0 (by decide) ?_
  refine lv_istore_n (lv' := [(2, .int (0)), (0, .ref (a 13)), (1, .ref (a 15))]) hx hb dX2_totalOf_1 rfl hl (by decide) rfl (fun ls hl => ?_)
  refine lv_iconst (v := nI (0)) hx hb dX2_totalOf_2 (by decide) ?_
  refine lv_istore_n (lv' := [(3, .int (nI (0))), (2, .int (0)), (0, .ref (a 13)), (1, .ref (a 15))]) hx hb dX2_totalOf_3 rfl hl (by decide) rfl (fun ls hl => ?_)
  have loop4 : ∀ (fu : Nat) (i : Nat) (tt : Int32) (hin : i ≤ n) (ht : tt = l_sum (R 1) i) (hfu : n - i < fu) (H : Heap) (locs : List Loc) (hP : va_P D vwCl (wRB a cI cZ R) H) (hD : va_D A (wRB a cI cZ R)) (hS : va_S A s.heap H locs) (ls : Array Slot) (hl : lv_has ls 4 [(3, .int (nI (i))), (2, .int (tt)), (0, .ref (a 13)), (1, .ref (a 15))]), W p l e (headSpec wsX2_totalOf ({ frames := 0, cells := 0, slots := 0, locals := 0 } : Room)).room s m ([.ref (a 13), .ref (a 15)] : List Value).toArray below meth c H locs 0 0 (MQ below (va_Qi (fun (r : Int32) (u : Unit) => r = l_sum (R 1) n) (fun (u : Unit) => PostW D cI cZ A (wRB a cI cZ R)) A) ([.ref (a 13), .ref (a 15)] : List Value).toArray s 0 0 A) (F0 m 4 ls []) := by
    clear hP hD hS hl
    intro fu4
    induction fu4 with
    | zero => intro i tt hin ht hfu; exact absurd hfu (Nat.not_lt_zero _)
    | succ fu4 ih4 =>
      intro i tt hin ht hfu H locs hP hD hS ls hl
      refine lv_iload_n hx hb dX2_totalOf_4 rfl (lv_at hl 0 rfl) ?_
      refine lv_aload_n hx hb dX2_totalOf_5 rfl (lv_at hl 2 rfl) ?_
      refine va_get (D := D) (ci := 2) (v := .int (nI (n))) (C := RX2) (T := TX2) (N := 9) hx hb hts (fun w h => List.mem_cons_of_mem _ (List.mem_append_right _ h)) hown hK hP 0 rfl rfl 8 (by decide) (hts (.fieldLink RX2 37 "CashAllocator$ReceiptBook" "count" "I") (by decide +kernel)) (fun _ h9 => h9) (congrArg (fun z => some (Value.int z)) hR) dX2_totalOf_6 ?_
      refine lv_icmp_ge (tgt := 30) hx hb dX2_totalOf_9 (by decide) (fun c9 => ?_) (fun c9 => ?_)
      · -- 9 taken
        rw [nI_leI (by omega) (by omega)] at c9
        refine lv_iload_n hx hb dX2_totalOf_30 rfl (lv_at hl 1 rfl) ?_
        have hfin : tt = l_sum (R 1) n := by rw [ht]; congr 1; omega
        exact W.iret (v := tt) hx hb hr (fun t ht hW => ⟨⟨tt, (), rfl, hfin, by rw [ht]; exact hP, va_K.moved hW.alike hK, hD⟩, hS.F ht⟩) hS.2.2 dX2_totalOf_31
      · -- 9 on
        rw [nI_leI (by omega) (by omega)] at c9
        have c9 : i < n := by omega
        refine lv_iload_n hx hb dX2_totalOf_12 rfl (lv_at hl 0 rfl) ?_
        refine lv_aload_n hx hb dX2_totalOf_13 rfl (lv_at hl 3 rfl) ?_
        refine va_alen (v := nI (30)) hx hb hK hP 2 0 rfl rfl rfl dX2_totalOf_14 ?_
        refine lv_icmp_ge (tgt := 30) hx hb dX2_totalOf_15 (by decide) (fun c15 => ?_) (fun c15 => ?_)
        · -- 15 taken
          rw [nI_leI (by omega) (by omega)] at c15
          exact absurd c15 (by omega)
        · -- 15 on
          rw [nI_leI (by omega) (by omega)] at c15
          refine lv_iload_n hx hb dX2_totalOf_18 rfl (lv_at hl 1 rfl) ?_
          refine lv_aload_n hx hb dX2_totalOf_19 rfl (lv_at hl 3 rfl) ?_
          refine lv_iload_n hx hb dX2_totalOf_20 rfl (lv_at hl 0 rfl) ?_
          refine zald hx hb hK hP 2 (n := 30) (f := (R 1)) rfl (i) rfl (by omega) (by decide) dX2_totalOf_21 ?_
          refine lv_iadd hx hb dX2_totalOf_22 ?_
          refine lv_istore_n (lv' := [(2, .int ((tt) + (R 1 (i)))), (3, .int (nI (i))), (0, .ref (a 13)), (1, .ref (a 15))]) hx hb dX2_totalOf_23 rfl hl (by decide) rfl (fun ls hl => ?_)
          refine lv_iinc (v := nI (i + 1)) (lv' := [(3, .int (nI (i + 1))), (2, .int ((tt) + (R 1 (i)))), (0, .ref (a 13)), (1, .ref (a 15))]) hx hb dX2_totalOf_24 hl (k := 1) rfl (nI_1 _) (by decide) rfl (fun ls hl => ?_)
          refine lv_goto (tgt := 4) hx hb dX2_totalOf_27 (by decide) ?_
          exact ih4 (i + 1) ((tt) + (R 1 (i))) (by omega) (by rw [ht]; rfl) (by omega) _ _ hP hD hS _ (lv_sub hl [0, 1, 2, 3] rfl)
  exact loop4 _ (0) (0) (Nat.zero_le _) (rfl) (Nat.lt_succ_self _) _ _ hP hD hS _ (lv_sub hl [0, 1, 2, 3] rfl)
set_option maxHeartbeats 4000000 in
set_option maxRecDepth 100000 in
theorem c_X2_totalOf_2 (l : Launch) (D : va_G) (cI cZ : ClassId) (a : Nat → Nat) (sz : Nat) (R : Nat → Nat → Int32) (n : Nat) (hR : R 8 0 = nI n) (hn : n ≤ 30) : Met l yX2_totalOf wsX2_totalOf ({ frames := 0, cells := 0, slots := 0, locals := 0 } : Room) (va_Pc [.ref (a 13), .ref (a 16)] (PreW D cI cZ (wRB a cI cZ R) sz)) (va_Qi (fun (r : Int32) (u : Unit) => r = l_sum (R 2) n) (fun (u : Unit) => PostW D cI cZ (va_A (wRB a cI cZ R) sz) (wRB a cI cZ R)) (va_A (wRB a cI cZ R) sz)) 0 0 (va_A (wRB a cI cZ R) sz) := by
  refine Met.ofW (cc := cX2_totalOf) (maxL := 4) (ret := (some .int)) (by decide) rfl ?_
  intro p e s m args below meth c s₁ BB hml hv
  obtain ⟨rfl, hsz, hP, hK, hD0⟩ := hv
  have hx := BB.exec
  have hb := BB.bytes
  have hr := BB.returns
  have hts := atoms_spec (ws := wsX2_totalOf) BB.pre
  have hown : s.vm.findClass RX2 = some m.cls := findClass_of_methodNamed BB.named
  have hlocks := BB.notSynchronized
  clear BB
  subst hsz
  have hD := hD0.self (sz := s.heap.size)
  clear hD0
  generalize hAe : va_A (wRB a cI cZ R) s.heap.size = A at hD ⊢
  have hA : ∀ q : Nat, s.heap.size ≤ q → A q := fun q h => by rw [← hAe]; exact Or.inr h
  clear hAe
  have hS : va_S A s.heap s.heap [] := va_S.rf
  have hl := lv_entry ([.ref (a 13), .ref (a 16)]) (n := 4) (Nat.le_of_ble_eq_true rfl)
  rw [lg_entry_eq]
  generalize (lg_sl ([.ref (a 13), .ref (a 16)]) ++ List.replicate (4 - (lg_sl ([.ref (a 13), .ref (a 16)])).length) Slot.unset).toArray = ls at hl ⊢
  have hl : lv_has ls 4 [(0, .ref (a 13)), (1, .ref (a 16))] := hl
  generalize hHe : s.heap = H at hP
  have hS : va_S A s.heap H [] := by rw [← hHe]; exact va_S.rf
  clear hHe
  generalize hLe : ([] : List Loc) = locs at hS ⊢
  clear hLe
  refine lv_iconst (v := 0) hx hb dX2_totalOf_0 (by decide) ?_
  refine lv_istore_n (lv' := [(2, .int (0)), (0, .ref (a 13)), (1, .ref (a 16))]) hx hb dX2_totalOf_1 rfl hl (by decide) rfl (fun ls hl => ?_)
  refine lv_iconst (v := nI (0)) hx hb dX2_totalOf_2 (by decide) ?_
  refine lv_istore_n (lv' := [(3, .int (nI (0))), (2, .int (0)), (0, .ref (a 13)), (1, .ref (a 16))]) hx hb dX2_totalOf_3 rfl hl (by decide) rfl (fun ls hl => ?_)
  have loop4 : ∀ (fu : Nat) (i : Nat) (tt : Int32) (hin : i ≤ n) (ht : tt = l_sum (R 2) i) (hfu : n - i < fu) (H : Heap) (locs : List Loc) (hP : va_P D vwCl (wRB a cI cZ R) H) (hD : va_D A (wRB a cI cZ R)) (hS : va_S A s.heap H locs) (ls : Array Slot) (hl : lv_has ls 4 [(3, .int (nI (i))), (2, .int (tt)), (0, .ref (a 13)), (1, .ref (a 16))]), W p l e (headSpec wsX2_totalOf ({ frames := 0, cells := 0, slots := 0, locals := 0 } : Room)).room s m ([.ref (a 13), .ref (a 16)] : List Value).toArray below meth c H locs 0 0 (MQ below (va_Qi (fun (r : Int32) (u : Unit) => r = l_sum (R 2) n) (fun (u : Unit) => PostW D cI cZ A (wRB a cI cZ R)) A) ([.ref (a 13), .ref (a 16)] : List Value).toArray s 0 0 A) (F0 m 4 ls []) := by
    clear hP hD hS hl
    intro fu4
    induction fu4 with
    | zero => intro i tt hin ht hfu; exact absurd hfu (Nat.not_lt_zero _)
    | succ fu4 ih4 =>
      intro i tt hin ht hfu H locs hP hD hS ls hl
      refine lv_iload_n hx hb dX2_totalOf_4 rfl (lv_at hl 0 rfl) ?_
      refine lv_aload_n hx hb dX2_totalOf_5 rfl (lv_at hl 2 rfl) ?_
      refine va_get (D := D) (ci := 2) (v := .int (nI (n))) (C := RX2) (T := TX2) (N := 9) hx hb hts (fun w h => List.mem_cons_of_mem _ (List.mem_append_right _ h)) hown hK hP 0 rfl rfl 8 (by decide) (hts (.fieldLink RX2 37 "CashAllocator$ReceiptBook" "count" "I") (by decide +kernel)) (fun _ h9 => h9) (congrArg (fun z => some (Value.int z)) hR) dX2_totalOf_6 ?_
      refine lv_icmp_ge (tgt := 30) hx hb dX2_totalOf_9 (by decide) (fun c9 => ?_) (fun c9 => ?_)
      · -- 9 taken
        rw [nI_leI (by omega) (by omega)] at c9
        refine lv_iload_n hx hb dX2_totalOf_30 rfl (lv_at hl 1 rfl) ?_
        have hfin : tt = l_sum (R 2) n := by rw [ht]; congr 1; omega
        exact W.iret (v := tt) hx hb hr (fun t ht hW => ⟨⟨tt, (), rfl, hfin, by rw [ht]; exact hP, va_K.moved hW.alike hK, hD⟩, hS.F ht⟩) hS.2.2 dX2_totalOf_31
      · -- 9 on
        rw [nI_leI (by omega) (by omega)] at c9
        have c9 : i < n := by omega
        refine lv_iload_n hx hb dX2_totalOf_12 rfl (lv_at hl 0 rfl) ?_
        refine lv_aload_n hx hb dX2_totalOf_13 rfl (lv_at hl 3 rfl) ?_
        refine va_alen (v := nI (30)) hx hb hK hP 3 0 rfl rfl rfl dX2_totalOf_14 ?_
        refine lv_icmp_ge (tgt := 30) hx hb dX2_totalOf_15 (by decide) (fun c15 => ?_) (fun c15 => ?_)
        · -- 15 taken
          rw [nI_leI (by omega) (by omega)] at c15
          exact absurd c15 (by omega)
        · -- 15 on
          rw [nI_leI (by omega) (by omega)] at c15
          refine lv_iload_n hx hb dX2_totalOf_18 rfl (lv_at hl 1 rfl) ?_
          refine lv_aload_n hx hb dX2_totalOf_19 rfl (lv_at hl 3 rfl) ?_
          refine lv_iload_n hx hb dX2_totalOf_20 rfl (lv_at hl 0 rfl) ?_
          refine zald hx hb hK hP 3 (n := 30) (f := (R 2)) rfl (i) rfl (by omega) (by decide) dX2_totalOf_21 ?_
          refine lv_iadd hx hb dX2_totalOf_22 ?_
          refine lv_istore_n (lv' := [(2, .int ((tt) + (R 2 (i)))), (3, .int (nI (i))), (0, .ref (a 13)), (1, .ref (a 16))]) hx hb dX2_totalOf_23 rfl hl (by decide) rfl (fun ls hl => ?_)
          refine lv_iinc (v := nI (i + 1)) (lv' := [(3, .int (nI (i + 1))), (2, .int ((tt) + (R 2 (i)))), (0, .ref (a 13)), (1, .ref (a 16))]) hx hb dX2_totalOf_24 hl (k := 1) rfl (nI_1 _) (by decide) rfl (fun ls hl => ?_)
          refine lv_goto (tgt := 4) hx hb dX2_totalOf_27 (by decide) ?_
          exact ih4 (i + 1) ((tt) + (R 2 (i))) (by omega) (by rw [ht]; rfl) (by omega) _ _ hP hD hS _ (lv_sub hl [0, 1, 2, 3] rfl)
  exact loop4 _ (0) (0) (Nat.zero_le _) (rfl) (Nat.lt_succ_self _) _ _ hP hD hS _ (lv_sub hl [0, 1, 2, 3] rfl)
set_option maxHeartbeats 4000000 in
set_option maxRecDepth 100000 in
theorem c_X2_totalOf_3 (l : Launch) (D : va_G) (cI cZ : ClassId) (a : Nat → Nat) (sz : Nat) (R : Nat → Nat → Int32) (n : Nat) (hR : R 8 0 = nI n) (hn : n ≤ 30) : Met l yX2_totalOf wsX2_totalOf ({ frames := 0, cells := 0, slots := 0, locals := 0 } : Room) (va_Pc [.ref (a 13), .ref (a 17)] (PreW D cI cZ (wRB a cI cZ R) sz)) (va_Qi (fun (r : Int32) (u : Unit) => r = l_sum (R 3) n) (fun (u : Unit) => PostW D cI cZ (va_A (wRB a cI cZ R) sz) (wRB a cI cZ R)) (va_A (wRB a cI cZ R) sz)) 0 0 (va_A (wRB a cI cZ R) sz) := by
  refine Met.ofW (cc := cX2_totalOf) (maxL := 4) (ret := (some .int)) (by decide) rfl ?_
  intro p e s m args below meth c s₁ BB hml hv
  obtain ⟨rfl, hsz, hP, hK, hD0⟩ := hv
  have hx := BB.exec
  have hb := BB.bytes
  have hr := BB.returns
  have hts := atoms_spec (ws := wsX2_totalOf) BB.pre
  have hown : s.vm.findClass RX2 = some m.cls := findClass_of_methodNamed BB.named
  have hlocks := BB.notSynchronized
  clear BB
  subst hsz
  have hD := hD0.self (sz := s.heap.size)
  clear hD0
  generalize hAe : va_A (wRB a cI cZ R) s.heap.size = A at hD ⊢
  have hA : ∀ q : Nat, s.heap.size ≤ q → A q := fun q h => by rw [← hAe]; exact Or.inr h
  clear hAe
  have hS : va_S A s.heap s.heap [] := va_S.rf
  have hl := lv_entry ([.ref (a 13), .ref (a 17)]) (n := 4) (Nat.le_of_ble_eq_true rfl)
  rw [lg_entry_eq]
  generalize (lg_sl ([.ref (a 13), .ref (a 17)]) ++ List.replicate (4 - (lg_sl ([.ref (a 13), .ref (a 17)])).length) Slot.unset).toArray = ls at hl ⊢
  have hl : lv_has ls 4 [(0, .ref (a 13)), (1, .ref (a 17))] := hl
  generalize hHe : s.heap = H at hP
  have hS : va_S A s.heap H [] := by rw [← hHe]; exact va_S.rf
  clear hHe
  generalize hLe : ([] : List Loc) = locs at hS ⊢
  clear hLe
  refine lv_iconst (v := 0) hx hb dX2_totalOf_0 (by decide) ?_
  refine lv_istore_n (lv' := [(2, .int (0)), (0, .ref (a 13)), (1, .ref (a 17))]) hx hb dX2_totalOf_1 rfl hl (by decide) rfl (fun ls hl => ?_)
  refine lv_iconst (v := nI (0)) hx hb dX2_totalOf_2 (by decide) ?_
  refine lv_istore_n (lv' := [(3, .int (nI (0))), (2, .int (0)), (0, .ref (a 13)), (1, .ref (a 17))]) hx hb dX2_totalOf_3 rfl hl (by decide) rfl (fun ls hl => ?_)
  have loop4 : ∀ (fu : Nat) (i : Nat) (tt : Int32) (hin : i ≤ n) (ht : tt = l_sum (R 3) i) (hfu : n - i < fu) (H : Heap) (locs : List Loc) (hP : va_P D vwCl (wRB a cI cZ R) H) (hD : va_D A (wRB a cI cZ R)) (hS : va_S A s.heap H locs) (ls : Array Slot) (hl : lv_has ls 4 [(3, .int (nI (i))), (2, .int (tt)), (0, .ref (a 13)), (1, .ref (a 17))]), W p l e (headSpec wsX2_totalOf ({ frames := 0, cells := 0, slots := 0, locals := 0 } : Room)).room s m ([.ref (a 13), .ref (a 17)] : List Value).toArray below meth c H locs 0 0 (MQ below (va_Qi (fun (r : Int32) (u : Unit) => r = l_sum (R 3) n) (fun (u : Unit) => PostW D cI cZ A (wRB a cI cZ R)) A) ([.ref (a 13), .ref (a 17)] : List Value).toArray s 0 0 A) (F0 m 4 ls []) := by
    clear hP hD hS hl
    intro fu4
    induction fu4 with
    | zero => intro i tt hin ht hfu; exact absurd hfu (Nat.not_lt_zero _)
    | succ fu4 ih4 =>
      intro i tt hin ht hfu H locs hP hD hS ls hl
      refine lv_iload_n hx hb dX2_totalOf_4 rfl (lv_at hl 0 rfl) ?_
      refine lv_aload_n hx hb dX2_totalOf_5 rfl (lv_at hl 2 rfl) ?_
      refine va_get (D := D) (ci := 2) (v := .int (nI (n))) (C := RX2) (T := TX2) (N := 9) hx hb hts (fun w h => List.mem_cons_of_mem _ (List.mem_append_right _ h)) hown hK hP 0 rfl rfl 8 (by decide) (hts (.fieldLink RX2 37 "CashAllocator$ReceiptBook" "count" "I") (by decide +kernel)) (fun _ h9 => h9) (congrArg (fun z => some (Value.int z)) hR) dX2_totalOf_6 ?_
      refine lv_icmp_ge (tgt := 30) hx hb dX2_totalOf_9 (by decide) (fun c9 => ?_) (fun c9 => ?_)
      · -- 9 taken
        rw [nI_leI (by omega) (by omega)] at c9
        refine lv_iload_n hx hb dX2_totalOf_30 rfl (lv_at hl 1 rfl) ?_
        have hfin : tt = l_sum (R 3) n := by rw [ht]; congr 1; omega
        exact W.iret (v := tt) hx hb hr (fun t ht hW => ⟨⟨tt, (), rfl, hfin, by rw [ht]; exact hP, va_K.moved hW.alike hK, hD⟩, hS.F ht⟩) hS.2.2 dX2_totalOf_31
      · -- 9 on
        rw [nI_leI (by omega) (by omega)] at c9
        have c9 : i < n := by omega
        refine lv_iload_n hx hb dX2_totalOf_12 rfl (lv_at hl 0 rfl) ?_
        refine lv_aload_n hx hb dX2_totalOf_13 rfl (lv_at hl 3 rfl) ?_
        refine va_alen (v := nI (30)) hx hb hK hP 4 0 rfl rfl rfl dX2_totalOf_14 ?_
        refine lv_icmp_ge (tgt := 30) hx hb dX2_totalOf_15 (by decide) (fun c15 => ?_) (fun c15 => ?_)
        · -- 15 taken
          rw [nI_leI (by omega) (by omega)] at c15
          exact absurd c15 (by omega)
        · -- 15 on
          rw [nI_leI (by omega) (by omega)] at c15
          refine lv_iload_n hx hb dX2_totalOf_18 rfl (lv_at hl 1 rfl) ?_
          refine lv_aload_n hx hb dX2_totalOf_19 rfl (lv_at hl 3 rfl) ?_
          refine lv_iload_n hx hb dX2_totalOf_20 rfl (lv_at hl 0 rfl) ?_
          refine zald hx hb hK hP 4 (n := 30) (f := (R 3)) rfl (i) rfl (by omega) (by decide) dX2_totalOf_21 ?_
          refine lv_iadd hx hb dX2_totalOf_22 ?_
          refine lv_istore_n (lv' := [(2, .int ((tt) + (R 3 (i)))), (3, .int (nI (i))), (0, .ref (a 13)), (1, .ref (a 17))]) hx hb dX2_totalOf_23 rfl hl (by decide) rfl (fun ls hl => ?_)
          refine lv_iinc (v := nI (i + 1)) (lv' := [(3, .int (nI (i + 1))), (2, .int ((tt) + (R 3 (i)))), (0, .ref (a 13)), (1, .ref (a 17))]) hx hb dX2_totalOf_24 hl (k := 1) rfl (nI_1 _) (by decide) rfl (fun ls hl => ?_)
          refine lv_goto (tgt := 4) hx hb dX2_totalOf_27 (by decide) ?_
          exact ih4 (i + 1) ((tt) + (R 3 (i))) (by omega) (by rw [ht]; rfl) (by omega) _ _ hP hD hS _ (lv_sub hl [0, 1, 2, 3] rfl)
  exact loop4 _ (0) (0) (Nat.zero_le _) (rfl) (Nat.lt_succ_self _) _ _ hP hD hS _ (lv_sub hl [0, 1, 2, 3] rfl)
set_option maxHeartbeats 4000000 in
set_option maxRecDepth 100000 in
theorem c_X2_totalOf_4 (l : Launch) (D : va_G) (cI cZ : ClassId) (a : Nat → Nat) (sz : Nat) (R : Nat → Nat → Int32) (n : Nat) (hR : R 8 0 = nI n) (hn : n ≤ 30) : Met l yX2_totalOf wsX2_totalOf ({ frames := 0, cells := 0, slots := 0, locals := 0 } : Room) (va_Pc [.ref (a 13), .ref (a 18)] (PreW D cI cZ (wRB a cI cZ R) sz)) (va_Qi (fun (r : Int32) (u : Unit) => r = l_sum (R 4) n) (fun (u : Unit) => PostW D cI cZ (va_A (wRB a cI cZ R) sz) (wRB a cI cZ R)) (va_A (wRB a cI cZ R) sz)) 0 0 (va_A (wRB a cI cZ R) sz) := by
  refine Met.ofW (cc := cX2_totalOf) (maxL := 4) (ret := (some .int)) (by decide) rfl ?_
  intro p e s m args below meth c s₁ BB hml hv
  obtain ⟨rfl, hsz, hP, hK, hD0⟩ := hv
  have hx := BB.exec
  have hb := BB.bytes
  have hr := BB.returns
  have hts := atoms_spec (ws := wsX2_totalOf) BB.pre
  have hown : s.vm.findClass RX2 = some m.cls := findClass_of_methodNamed BB.named
  have hlocks := BB.notSynchronized
  clear BB
  subst hsz
  have hD := hD0.self (sz := s.heap.size)
  clear hD0
  generalize hAe : va_A (wRB a cI cZ R) s.heap.size = A at hD ⊢
  have hA : ∀ q : Nat, s.heap.size ≤ q → A q := fun q h => by rw [← hAe]; exact Or.inr h
  clear hAe
  have hS : va_S A s.heap s.heap [] := va_S.rf
  have hl := lv_entry ([.ref (a 13), .ref (a 18)]) (n := 4) (Nat.le_of_ble_eq_true rfl)
  rw [lg_entry_eq]
  generalize (lg_sl ([.ref (a 13), .ref (a 18)]) ++ List.replicate (4 - (lg_sl ([.ref (a 13), .ref (a 18)])).length) Slot.unset).toArray = ls at hl ⊢
  have hl : lv_has ls 4 [(0, .ref (a 13)), (1, .ref (a 18))] := hl
  generalize hHe : s.heap = H at hP
  have hS : va_S A s.heap H [] := by rw [← hHe]; exact va_S.rf
  clear hHe
  generalize hLe : ([] : List Loc) = locs at hS ⊢
  clear hLe
  refine lv_iconst (v := 0) hx hb dX2_totalOf_0 (by decide) ?_
  refine lv_istore_n (lv' := [(2, .int (0)), (0, .ref (a 13)), (1, .ref (a 18))]) hx hb dX2_totalOf_1 rfl hl (by decide) rfl (fun ls hl => ?_)
  refine lv_iconst (v := nI (0)) hx hb dX2_totalOf_2 (by decide) ?_
  refine lv_istore_n (lv' := [(3, .int (nI (0))), (2, .int (0)), (0, .ref (a 13)), (1, .ref (a 18))]) hx hb dX2_totalOf_3 rfl hl (by decide) rfl (fun ls hl => ?_)
  have loop4 : ∀ (fu : Nat) (i : Nat) (tt : Int32) (hin : i ≤ n) (ht : tt = l_sum (R 4) i) (hfu : n - i < fu) (H : Heap) (locs : List Loc) (hP : va_P D vwCl (wRB a cI cZ R) H) (hD : va_D A (wRB a cI cZ R)) (hS : va_S A s.heap H locs) (ls : Array Slot) (hl : lv_has ls 4 [(3, .int (nI (i))), (2, .int (tt)), (0, .ref (a 13)), (1, .ref (a 18))]), W p l e (headSpec wsX2_totalOf ({ frames := 0, cells := 0, slots := 0, locals := 0 } : Room)).room s m ([.ref (a 13), .ref (a 18)] : List Value).toArray below meth c H locs 0 0 (MQ below (va_Qi (fun (r : Int32) (u : Unit) => r = l_sum (R 4) n) (fun (u : Unit) => PostW D cI cZ A (wRB a cI cZ R)) A) ([.ref (a 13), .ref (a 18)] : List Value).toArray s 0 0 A) (F0 m 4 ls []) := by
    clear hP hD hS hl
    intro fu4
    induction fu4 with
    | zero => intro i tt hin ht hfu; exact absurd hfu (Nat.not_lt_zero _)
    | succ fu4 ih4 =>
      intro i tt hin ht hfu H locs hP hD hS ls hl
      refine lv_iload_n hx hb dX2_totalOf_4 rfl (lv_at hl 0 rfl) ?_
      refine lv_aload_n hx hb dX2_totalOf_5 rfl (lv_at hl 2 rfl) ?_
      refine va_get (D := D) (ci := 2) (v := .int (nI (n))) (C := RX2) (T := TX2) (N := 9) hx hb hts (fun w h => List.mem_cons_of_mem _ (List.mem_append_right _ h)) hown hK hP 0 rfl rfl 8 (by decide) (hts (.fieldLink RX2 37 "CashAllocator$ReceiptBook" "count" "I") (by decide +kernel)) (fun _ h9 => h9) (congrArg (fun z => some (Value.int z)) hR) dX2_totalOf_6 ?_
      refine lv_icmp_ge (tgt := 30) hx hb dX2_totalOf_9 (by decide) (fun c9 => ?_) (fun c9 => ?_)
      · -- 9 taken
        rw [nI_leI (by omega) (by omega)] at c9
        refine lv_iload_n hx hb dX2_totalOf_30 rfl (lv_at hl 1 rfl) ?_
        have hfin : tt = l_sum (R 4) n := by rw [ht]; congr 1; omega
        exact W.iret (v := tt) hx hb hr (fun t ht hW => ⟨⟨tt, (), rfl, hfin, by rw [ht]; exact hP, va_K.moved hW.alike hK, hD⟩, hS.F ht⟩) hS.2.2 dX2_totalOf_31
      · -- 9 on
        rw [nI_leI (by omega) (by omega)] at c9
        have c9 : i < n := by omega
        refine lv_iload_n hx hb dX2_totalOf_12 rfl (lv_at hl 0 rfl) ?_
        refine lv_aload_n hx hb dX2_totalOf_13 rfl (lv_at hl 3 rfl) ?_
        refine va_alen (v := nI (30)) hx hb hK hP 5 0 rfl rfl rfl dX2_totalOf_14 ?_
        refine lv_icmp_ge (tgt := 30) hx hb dX2_totalOf_15 (by decide) (fun c15 => ?_) (fun c15 => ?_)
        · -- 15 taken
          rw [nI_leI (by omega) (by omega)] at c15
          exact absurd c15 (by omega)
        · -- 15 on
          rw [nI_leI (by omega) (by omega)] at c15
          refine lv_iload_n hx hb dX2_totalOf_18 rfl (lv_at hl 1 rfl) ?_
          refine lv_aload_n hx hb dX2_totalOf_19 rfl (lv_at hl 3 rfl) ?_
          refine lv_iload_n hx hb dX2_totalOf_20 rfl (lv_at hl 0 rfl) ?_
          refine zald hx hb hK hP 5 (n := 30) (f := (R 4)) rfl (i) rfl (by omega) (by decide) dX2_totalOf_21 ?_
          refine lv_iadd hx hb dX2_totalOf_22 ?_
          refine lv_istore_n (lv' := [(2, .int ((tt) + (R 4 (i)))), (3, .int (nI (i))), (0, .ref (a 13)), (1, .ref (a 18))]) hx hb dX2_totalOf_23 rfl hl (by decide) rfl (fun ls hl => ?_)
          refine lv_iinc (v := nI (i + 1)) (lv' := [(3, .int (nI (i + 1))), (2, .int ((tt) + (R 4 (i)))), (0, .ref (a 13)), (1, .ref (a 18))]) hx hb dX2_totalOf_24 hl (k := 1) rfl (nI_1 _) (by decide) rfl (fun ls hl => ?_)
          refine lv_goto (tgt := 4) hx hb dX2_totalOf_27 (by decide) ?_
          exact ih4 (i + 1) ((tt) + (R 4 (i))) (by omega) (by rw [ht]; rfl) (by omega) _ _ hP hD hS _ (lv_sub hl [0, 1, 2, 3] rfl)
  exact loop4 _ (0) (0) (Nat.zero_le _) (rfl) (Nat.lt_succ_self _) _ _ hP hD hS _ (lv_sub hl [0, 1, 2, 3] rfl)
set_option maxHeartbeats 4000000 in
set_option maxRecDepth 100000 in
theorem c_X2_bouncedTotal (l : Launch) (D : va_G) (cI cZ : ClassId) (a : Nat → Nat) (sz : Nat) (R : Nat → Nat → Int32) (n : Nat) (hR : R 8 0 = nI n) (hn : n ≤ 30) : Met l yX2_bouncedTotal wsX2_bouncedTotal ({ frames := 0, cells := 0, slots := 0, locals := 0 } : Room) (va_Pc [.ref (a 13)] (PreW D cI cZ (wRB a cI cZ R) sz)) (va_Qi (fun (r : Int32) (u : Unit) => r = bsm R n) (fun (u : Unit) => PostW D cI cZ (va_A (wRB a cI cZ R) sz) (wRB a cI cZ R)) (va_A (wRB a cI cZ R) sz)) 0 0 (va_A (wRB a cI cZ R) sz) := by
  refine Met.ofW (cc := cX2_bouncedTotal) (maxL := 3) (ret := (some .int)) (by decide) rfl ?_
  intro p e s m args below meth c s₁ BB hml hv
  obtain ⟨rfl, hsz, hP, hK, hD0⟩ := hv
  have hx := BB.exec
  have hb := BB.bytes
  have hr := BB.returns
  have hts := atoms_spec (ws := wsX2_bouncedTotal) BB.pre
  have hown : s.vm.findClass RX2 = some m.cls := findClass_of_methodNamed BB.named
  have hlocks := BB.notSynchronized
  clear BB
  subst hsz
  have hD := hD0.self (sz := s.heap.size)
  clear hD0
  generalize hAe : va_A (wRB a cI cZ R) s.heap.size = A at hD ⊢
  have hA : ∀ q : Nat, s.heap.size ≤ q → A q := fun q h => by rw [← hAe]; exact Or.inr h
  clear hAe
  have hS : va_S A s.heap s.heap [] := va_S.rf
  have hl := lv_entry ([.ref (a 13)]) (n := 3) (Nat.le_of_ble_eq_true rfl)
  rw [lg_entry_eq]
  generalize (lg_sl ([.ref (a 13)]) ++ List.replicate (3 - (lg_sl ([.ref (a 13)])).length) Slot.unset).toArray = ls at hl ⊢
  have hl : lv_has ls 3 [(0, .ref (a 13))] := hl
  generalize hHe : s.heap = H at hP
  have hS : va_S A s.heap H [] := by rw [← hHe]; exact va_S.rf
  clear hHe
  generalize hLe : ([] : List Loc) = locs at hS ⊢
  clear hLe
  refine lv_iconst (v := 0) hx hb dX2_bouncedTotal_0 (by decide) ?_
  refine lv_istore_n (lv' := [(1, .int (0)), (0, .ref (a 13))]) hx hb dX2_bouncedTotal_1 rfl hl (by decide) rfl (fun ls hl => ?_)
  refine lv_iconst (v := nI (0)) hx hb dX2_bouncedTotal_2 (by decide) ?_
  refine lv_istore_n (lv' := [(2, .int (nI (0))), (1, .int (0)), (0, .ref (a 13))]) hx hb dX2_bouncedTotal_3 rfl hl (by decide) rfl (fun ls hl => ?_)
  have loop4 : ∀ (fu : Nat) (i : Nat) (tt : Int32) (hin : i ≤ n) (ht : tt = bsm R i) (hfu : n - i < fu) (H : Heap) (locs : List Loc) (hP : va_P D vwCl (wRB a cI cZ R) H) (hD : va_D A (wRB a cI cZ R)) (hS : va_S A s.heap H locs) (ls : Array Slot) (hl : lv_has ls 3 [(2, .int (nI (i))), (1, .int (tt)), (0, .ref (a 13))]), W p l e (headSpec wsX2_bouncedTotal ({ frames := 0, cells := 0, slots := 0, locals := 0 } : Room)).room s m ([.ref (a 13)] : List Value).toArray below meth c H locs 0 0 (MQ below (va_Qi (fun (r : Int32) (u : Unit) => r = bsm R n) (fun (u : Unit) => PostW D cI cZ A (wRB a cI cZ R)) A) ([.ref (a 13)] : List Value).toArray s 0 0 A) (F0 m 4 ls []) := by
    clear hP hD hS hl
    intro fu4
    induction fu4 with
    | zero => intro i tt hin ht hfu; exact absurd hfu (Nat.not_lt_zero _)
    | succ fu4 ih4 =>
      intro i tt hin ht hfu H locs hP hD hS ls hl
      refine lv_iload_n hx hb dX2_bouncedTotal_4 rfl (lv_at hl 0 rfl) ?_
      refine lv_aload_n hx hb dX2_bouncedTotal_5 rfl (lv_at hl 2 rfl) ?_
      refine va_get (D := D) (ci := 2) (v := .int (nI (n))) (C := RX2) (T := TX2) (N := 9) hx hb hts (fun w h => List.mem_cons_of_mem _ (List.mem_append_right _ h)) hown hK hP 0 rfl rfl 8 (by decide) (hts (.fieldLink RX2 37 "CashAllocator$ReceiptBook" "count" "I") (by decide +kernel)) (fun _ h9 => h9) (congrArg (fun z => some (Value.int z)) hR) dX2_bouncedTotal_6 ?_
      refine lv_icmp_ge (tgt := 36) hx hb dX2_bouncedTotal_9 (by decide) (fun c9 => ?_) (fun c9 => ?_)
      · -- 9 taken
        rw [nI_leI (by omega) (by omega)] at c9
        refine lv_iload_n hx hb dX2_bouncedTotal_36 rfl (lv_at hl 1 rfl) ?_
        have hfin : tt = bsm R n := by rw [ht]; congr 1; omega
        exact W.iret (v := tt) hx hb hr (fun t ht hW => ⟨⟨tt, (), rfl, hfin, by rw [ht]; exact hP, va_K.moved hW.alike hK, hD⟩, hS.F ht⟩) hS.2.2 dX2_bouncedTotal_37
      · -- 9 on
        rw [nI_leI (by omega) (by omega)] at c9
        have c9 : i < n := by omega
        refine lv_aload_n hx hb dX2_bouncedTotal_12 rfl (lv_at hl 2 rfl) ?_
        refine va_get (D := D) (ci := 2) (v := .ref (a 19)) (C := RX2) (T := TX2) (N := 9) hx hb hts (fun w h => List.mem_cons_of_mem _ (List.mem_append_right _ h)) hown hK hP 0 rfl rfl 5 (by decide) (hts (.fieldLink RX2 27 "CashAllocator$ReceiptBook" "isBounced" "[Z") (by decide +kernel)) (fun _ h9 => h9) rfl dX2_bouncedTotal_13 ?_
        refine lv_iload_n hx hb dX2_bouncedTotal_16 rfl (lv_at hl 0 rfl) ?_
        refine zbld hx hb hK hP 6 (n := 30) (f := (R 5)) rfl (i) rfl (by omega) (by decide) dX2_bouncedTotal_17 ?_
        refine lv_if_eq (tgt := 30) hx hb dX2_bouncedTotal_18 (by decide) (fun c18 => ?_) (fun c18 => ?_)
        · -- 18 taken
          refine lv_iinc (v := nI (i + 1)) (lv' := [(2, .int (nI (i + 1))), (1, .int (tt)), (0, .ref (a 13))]) hx hb dX2_bouncedTotal_30 hl (k := 0) rfl (nI_1 _) (by decide) rfl (fun ls hl => ?_)
          refine lv_goto (tgt := 4) hx hb dX2_bouncedTotal_33 (by decide) ?_
          exact ih4 (i + 1) (tt) (by omega) (by rw [bsm, ht]; first | rw [if_pos c18] | rw [if_neg c18]) (by omega) _ _ hP hD hS _ (lv_sub hl [0, 1, 2] rfl)
        · -- 18 on
          refine lv_iload_n hx hb dX2_bouncedTotal_21 rfl (lv_at hl 1 rfl) ?_
          refine lv_aload_n hx hb dX2_bouncedTotal_22 rfl (lv_at hl 2 rfl) ?_
          refine va_get (D := D) (ci := 2) (v := .ref (a 15)) (C := RX2) (T := TX2) (N := 9) hx hb hts (fun w h => List.mem_cons_of_mem _ (List.mem_append_right _ h)) hown hK hP 0 rfl rfl 1 (by decide) (hts (.fieldLink RX2 15 "CashAllocator$ReceiptBook" "amount" "[I") (by decide +kernel)) (fun _ h9 => h9) rfl dX2_bouncedTotal_23 ?_
          refine lv_iload_n hx hb dX2_bouncedTotal_26 rfl (lv_at hl 0 rfl) ?_
          refine zald hx hb hK hP 2 (n := 30) (f := (R 1)) rfl (i) rfl (by omega) (by decide) dX2_bouncedTotal_27 ?_
          refine lv_iadd hx hb dX2_bouncedTotal_28 ?_
          refine lv_istore_n (lv' := [(1, .int ((tt) + (R 1 (i)))), (2, .int (nI (i))), (0, .ref (a 13))]) hx hb dX2_bouncedTotal_29 rfl hl (by decide) rfl (fun ls hl => ?_)
          refine lv_iinc (v := nI (i + 1)) (lv' := [(2, .int (nI (i + 1))), (1, .int ((tt) + (R 1 (i)))), (0, .ref (a 13))]) hx hb dX2_bouncedTotal_30 hl (k := 1) rfl (nI_1 _) (by decide) rfl (fun ls hl => ?_)
          refine lv_goto (tgt := 4) hx hb dX2_bouncedTotal_33 (by decide) ?_
          exact ih4 (i + 1) ((tt) + (R 1 (i))) (by omega) (by rw [bsm, ht]; first | rw [if_pos c18] | rw [if_neg c18]) (by omega) _ _ hP hD hS _ (lv_sub hl [0, 1, 2] rfl)
  exact loop4 _ (0) (0) (Nat.zero_le _) (rfl) (Nat.lt_succ_self _) _ _ hP hD hS _ (lv_sub hl [0, 1, 2] rfl)
