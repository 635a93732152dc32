theorem dX3_init_0 : decode cX3_init 0 = .ok (.aload_n 0, 1) := by decide +kernel
theorem dX3_init_1 : decode cX3_init 1 = .ok (.invokespecial 1, 3) := by decide +kernel
theorem dX3_init_4 : decode cX3_init 4 = .ok (.aload_n 0, 1) := by decide +kernel
theorem dX3_init_5 : decode cX3_init 5 = .ok (.new 7, 3) := by decide +kernel
theorem dX3_init_8 : decode cX3_init 8 = .ok (.dup, 1) := by decide +kernel
theorem dX3_init_9 : decode cX3_init 9 = .ok (.invokespecial 9, 3) := by decide +kernel
theorem dX3_init_12 : decode cX3_init 12 = .ok (.putfield 10, 3) := by decide +kernel
theorem dX3_init_15 : decode cX3_init 15 = .ok (.aload_n 0, 1) := by decide +kernel
theorem dX3_init_16 : decode cX3_init 16 = .ok (.new 16, 3) := by decide +kernel
theorem dX3_init_19 : decode cX3_init 19 = .ok (.dup, 1) := by decide +kernel
theorem dX3_init_20 : decode cX3_init 20 = .ok (.invokespecial 18, 3) := by decide +kernel
theorem dX3_init_23 : decode cX3_init 23 = .ok (.putfield 19, 3) := by decide +kernel
theorem dX3_init_26 : decode cX3_init 26 = .ok (.aload_n 0, 1) := by decide +kernel
theorem dX3_init_27 : decode cX3_init 27 = .ok (.new 23, 3) := by decide +kernel
theorem dX3_init_30 : decode cX3_init 30 = .ok (.dup, 1) := by decide +kernel
theorem dX3_init_31 : decode cX3_init 31 = .ok (.invokespecial 25, 3) := by decide +kernel
theorem dX3_init_34 : decode cX3_init 34 = .ok (.putfield 26, 3) := by decide +kernel
theorem dX3_init_37 : decode cX3_init 37 = .ok (.aload_n 0, 1) := by decide +kernel
theorem dX3_init_38 : decode cX3_init 38 = .ok (.iconst 0, 1) := by decide +kernel
theorem dX3_init_39 : decode cX3_init 39 = .ok (.putfield 30, 3) := by decide +kernel
theorem dX3_init_42 : decode cX3_init 42 = .ok (.return_, 1) := by decide +kernel
theorem dX3_bill_0 : decode cX3_bill 0 = .ok (.iload_n 1, 1) := by decide +kernel
theorem dX3_bill_1 : decode cX3_bill 1 = .ok (.invokestatic 34, 3) := by decide +kernel
theorem dX3_bill_4 : decode cX3_bill 4 = .ok (.iload_n 2, 1) := by decide +kernel
theorem dX3_bill_5 : decode cX3_bill 5 = .ok (.iconst 1, 1) := by decide +kernel
theorem dX3_bill_6 : decode cX3_bill 6 = .ok (.ldc 38, 2) := by decide +kernel
theorem dX3_bill_8 : decode cX3_bill 8 = .ok (.invokestatic 39, 3) := by decide +kernel
theorem dX3_bill_11 : decode cX3_bill 11 = .ok (.iload_n 3, 1) := by decide +kernel
theorem dX3_bill_12 : decode cX3_bill 12 = .ok (.iconst 1, 1) := by decide +kernel
theorem dX3_bill_13 : decode cX3_bill 13 = .ok (.sipush 9999, 3) := by decide +kernel
theorem dX3_bill_16 : decode cX3_bill 16 = .ok (.invokestatic 39, 3) := by decide +kernel
theorem dX3_bill_19 : decode cX3_bill 19 = .ok (.iload 4, 2) := by decide +kernel
theorem dX3_bill_21 : decode cX3_bill 21 = .ok (.iconst 0, 1) := by decide +kernel
theorem dX3_bill_22 : decode cX3_bill 22 = .ok (.sipush 10000, 3) := by decide +kernel
theorem dX3_bill_25 : decode cX3_bill 25 = .ok (.invokestatic 39, 3) := by decide +kernel
theorem dX3_bill_28 : decode cX3_bill 28 = .ok (.iload 5, 2) := by decide +kernel
theorem dX3_bill_30 : decode cX3_bill 30 = .ok (.iconst 0, 1) := by decide +kernel
theorem dX3_bill_31 : decode cX3_bill 31 = .ok (.bipush 90, 2) := by decide +kernel
theorem dX3_bill_33 : decode cX3_bill 33 = .ok (.invokestatic 39, 3) := by decide +kernel
theorem dX3_bill_36 : decode cX3_bill 36 = .ok (.aload_n 0, 1) := by decide +kernel
theorem dX3_bill_37 : decode cX3_bill 37 = .ok (.getfield 10, 3) := by decide +kernel
theorem dX3_bill_40 : decode cX3_bill 40 = .ok (.getfield 43, 3) := by decide +kernel
theorem dX3_bill_43 : decode cX3_bill 43 = .ok (.bipush 40, 2) := by decide +kernel
theorem dX3_bill_45 : decode cX3_bill 45 = .ok (.if_icmp .lt 13, 3) := by decide +kernel
theorem dX3_bill_48 : decode cX3_bill 48 = .ok (.new 46, 3) := by decide +kernel
theorem dX3_bill_51 : decode cX3_bill 51 = .ok (.dup, 1) := by decide +kernel
theorem dX3_bill_52 : decode cX3_bill 52 = .ok (.ldc 48, 2) := by decide +kernel
theorem dX3_bill_54 : decode cX3_bill 54 = .ok (.invokespecial 50, 3) := by decide +kernel
theorem dX3_bill_57 : decode cX3_bill 57 = .ok (.athrow, 1) := by decide +kernel
theorem dX3_bill_58 : decode cX3_bill 58 = .ok (.aload_n 0, 1) := by decide +kernel
theorem dX3_bill_59 : decode cX3_bill 59 = .ok (.getfield 10, 3) := by decide +kernel
theorem dX3_bill_62 : decode cX3_bill 62 = .ok (.iload_n 1, 1) := by decide +kernel
theorem dX3_bill_63 : decode cX3_bill 63 = .ok (.iload_n 2, 1) := by decide +kernel
theorem dX3_bill_64 : decode cX3_bill 64 = .ok (.iload_n 3, 1) := by decide +kernel
theorem dX3_bill_65 : decode cX3_bill 65 = .ok (.iload_n 2, 1) := by decide +kernel
theorem dX3_bill_66 : decode cX3_bill 66 = .ok (.iload 4, 2) := by decide +kernel
theorem dX3_bill_68 : decode cX3_bill 68 = .ok (.invokestatic 53, 3) := by decide +kernel
theorem dX3_bill_71 : decode cX3_bill 71 = .ok (.aload_n 0, 1) := by decide +kernel
theorem dX3_bill_72 : decode cX3_bill 72 = .ok (.getfield 30, 3) := by decide +kernel
theorem dX3_bill_75 : decode cX3_bill 75 = .ok (.iload 5, 2) := by decide +kernel
theorem dX3_bill_77 : decode cX3_bill 77 = .ok (.iadd, 1) := by decide +kernel
theorem dX3_bill_78 : decode cX3_bill 78 = .ok (.invokevirtual 57, 3) := by decide +kernel
theorem dX3_bill_81 : decode cX3_bill 81 = .ok (.ireturn, 1) := by decide +kernel
theorem dX3_receive_0 : decode cX3_receive 0 = .ok (.iload_n 1, 1) := by decide +kernel
theorem dX3_receive_1 : decode cX3_receive 1 = .ok (.iconst (-1), 1) := by decide +kernel
theorem dX3_receive_2 : decode cX3_receive 2 = .ok (.if_icmp .eq 7, 3) := by decide +kernel
theorem dX3_receive_5 : decode cX3_receive 5 = .ok (.iload_n 1, 1) := by decide +kernel
theorem dX3_receive_6 : decode cX3_receive 6 = .ok (.invokestatic 34, 3) := by decide +kernel
theorem dX3_receive_9 : decode cX3_receive 9 = .ok (.iload_n 2, 1) := by decide +kernel
theorem dX3_receive_10 : decode cX3_receive 10 = .ok (.iconst 1, 1) := by decide +kernel
theorem dX3_receive_11 : decode cX3_receive 11 = .ok (.ldc 38, 2) := by decide +kernel
theorem dX3_receive_13 : decode cX3_receive 13 = .ok (.invokestatic 39, 3) := by decide +kernel
theorem dX3_receive_16 : decode cX3_receive 16 = .ok (.iload_n 3, 1) := by decide +kernel
theorem dX3_receive_17 : decode cX3_receive 17 = .ok (.iconst 0, 1) := by decide +kernel
theorem dX3_receive_18 : decode cX3_receive 18 = .ok (.sipush 9999, 3) := by decide +kernel
theorem dX3_receive_21 : decode cX3_receive 21 = .ok (.invokestatic 39, 3) := by decide +kernel
theorem dX3_receive_24 : decode cX3_receive 24 = .ok (.aload_n 0, 1) := by decide +kernel
theorem dX3_receive_25 : decode cX3_receive 25 = .ok (.getfield 19, 3) := by decide +kernel
theorem dX3_receive_28 : decode cX3_receive 28 = .ok (.getfield 61, 3) := by decide +kernel
theorem dX3_receive_31 : decode cX3_receive 31 = .ok (.bipush 30, 2) := by decide +kernel
theorem dX3_receive_33 : decode cX3_receive 33 = .ok (.if_icmp .lt 13, 3) := by decide +kernel
theorem dX3_receive_36 : decode cX3_receive 36 = .ok (.new 46, 3) := by decide +kernel
theorem dX3_receive_39 : decode cX3_receive 39 = .ok (.dup, 1) := by decide +kernel
theorem dX3_receive_40 : decode cX3_receive 40 = .ok (.ldc 62, 2) := by decide +kernel
theorem dX3_receive_42 : decode cX3_receive 42 = .ok (.invokespecial 50, 3) := by decide +kernel
theorem dX3_receive_45 : decode cX3_receive 45 = .ok (.athrow, 1) := by decide +kernel
theorem dX3_receive_46 : decode cX3_receive 46 = .ok (.aload_n 0, 1) := by decide +kernel
theorem dX3_receive_47 : decode cX3_receive 47 = .ok (.getfield 19, 3) := by decide +kernel
theorem dX3_receive_50 : decode cX3_receive 50 = .ok (.iload_n 1, 1) := by decide +kernel
theorem dX3_receive_51 : decode cX3_receive 51 = .ok (.iload_n 2, 1) := by decide +kernel
theorem dX3_receive_52 : decode cX3_receive 52 = .ok (.invokevirtual 64, 3) := by decide +kernel
theorem dX3_receive_55 : decode cX3_receive 55 = .ok (.istore 4, 2) := by decide +kernel
theorem dX3_receive_57 : decode cX3_receive 57 = .ok (.iload_n 3, 1) := by decide +kernel
theorem dX3_receive_58 : decode cX3_receive 58 = .ok (.ifCond .eq 10, 3) := by decide +kernel
theorem dX3_receive_61 : decode cX3_receive 61 = .ok (.aload_n 0, 1) := by decide +kernel
theorem dX3_receive_62 : decode cX3_receive 62 = .ok (.iload 4, 2) := by decide +kernel
theorem dX3_receive_64 : decode cX3_receive 64 = .ok (.iload_n 3, 1) := by decide +kernel
theorem dX3_receive_65 : decode cX3_receive 65 = .ok (.invokevirtual 66, 3) := by decide +kernel
theorem dX3_receive_68 : decode cX3_receive 68 = .ok (.aload_n 0, 1) := by decide +kernel
theorem dX3_receive_69 : decode cX3_receive 69 = .ok (.iload 4, 2) := by decide +kernel
theorem dX3_receive_71 : decode cX3_receive 71 = .ok (.invokevirtual 70, 3) := by decide +kernel
theorem dX3_receive_74 : decode cX3_receive 74 = .ok (.iload 4, 2) := by decide +kernel
theorem dX3_receive_76 : decode cX3_receive 76 = .ok (.ireturn, 1) := by decide +kernel
theorem dX3_assign_0 : decode cX3_assign 0 = .ok (.aload_n 0, 1) := by decide +kernel
theorem dX3_assign_1 : decode cX3_assign 1 = .ok (.iload_n 1, 1) := by decide +kernel
theorem dX3_assign_2 : decode cX3_assign 2 = .ok (.invokevirtual 73, 3) := by decide +kernel
theorem dX3_assign_5 : decode cX3_assign 5 = .ok (.iload_n 2, 1) := by decide +kernel
theorem dX3_assign_6 : decode cX3_assign 6 = .ok (.invokestatic 34, 3) := by decide +kernel
theorem dX3_assign_9 : decode cX3_assign 9 = .ok (.aload_n 0, 1) := by decide +kernel
theorem dX3_assign_10 : decode cX3_assign 10 = .ok (.iload_n 1, 1) := by decide +kernel
theorem dX3_assign_11 : decode cX3_assign 11 = .ok (.invokevirtual 76, 3) := by decide +kernel
theorem dX3_assign_14 : decode cX3_assign 14 = .ok (.aload_n 0, 1) := by decide +kernel
theorem dX3_assign_15 : decode cX3_assign 15 = .ok (.getfield 19, 3) := by decide +kernel
theorem dX3_assign_18 : decode cX3_assign 18 = .ok (.getfield 79, 3) := by decide +kernel
theorem dX3_assign_21 : decode cX3_assign 21 = .ok (.iload_n 1, 1) := by decide +kernel
theorem dX3_assign_22 : decode cX3_assign 22 = .ok (.iaload, 1) := by decide +kernel
theorem dX3_assign_23 : decode cX3_assign 23 = .ok (.iconst (-1), 1) := by decide +kernel
theorem dX3_assign_24 : decode cX3_assign 24 = .ok (.if_icmp .eq 13, 3) := by decide +kernel
theorem dX3_assign_27 : decode cX3_assign 27 = .ok (.new 46, 3) := by decide +kernel
theorem dX3_assign_30 : decode cX3_assign 30 = .ok (.dup, 1) := by decide +kernel
theorem dX3_assign_31 : decode cX3_assign 31 = .ok (.ldc 83, 2) := by decide +kernel
theorem dX3_assign_33 : decode cX3_assign 33 = .ok (.invokespecial 50, 3) := by decide +kernel
theorem dX3_assign_36 : decode cX3_assign 36 = .ok (.athrow, 1) := by decide +kernel
theorem dX3_assign_37 : decode cX3_assign 37 = .ok (.aload_n 0, 1) := by decide +kernel
theorem dX3_assign_38 : decode cX3_assign 38 = .ok (.getfield 19, 3) := by decide +kernel
theorem dX3_assign_41 : decode cX3_assign 41 = .ok (.getfield 79, 3) := by decide +kernel
theorem dX3_assign_44 : decode cX3_assign 44 = .ok (.iload_n 1, 1) := by decide +kernel
theorem dX3_assign_45 : decode cX3_assign 45 = .ok (.iload_n 2, 1) := by decide +kernel
theorem dX3_assign_46 : decode cX3_assign 46 = .ok (.iastore, 1) := by decide +kernel
theorem dX3_assign_47 : decode cX3_assign 47 = .ok (.aload_n 0, 1) := by decide +kernel
theorem dX3_assign_48 : decode cX3_assign 48 = .ok (.iload_n 1, 1) := by decide +kernel
theorem dX3_assign_49 : decode cX3_assign 49 = .ok (.invokevirtual 70, 3) := by decide +kernel
theorem dX3_assign_52 : decode cX3_assign 52 = .ok (.aload_n 0, 1) := by decide +kernel
theorem dX3_assign_53 : decode cX3_assign 53 = .ok (.getfield 19, 3) := by decide +kernel
theorem dX3_assign_56 : decode cX3_assign 56 = .ok (.getfield 85, 3) := by decide +kernel
theorem dX3_assign_59 : decode cX3_assign 59 = .ok (.iload_n 1, 1) := by decide +kernel
theorem dX3_assign_60 : decode cX3_assign 60 = .ok (.iaload, 1) := by decide +kernel
theorem dX3_assign_61 : decode cX3_assign 61 = .ok (.ireturn, 1) := by decide +kernel
theorem dX3_apply_0 : decode cX3_apply 0 = .ok (.aload_n 0, 1) := by decide +kernel
theorem dX3_apply_1 : decode cX3_apply 1 = .ok (.iload_n 1, 1) := by decide +kernel
theorem dX3_apply_2 : decode cX3_apply 2 = .ok (.invokevirtual 73, 3) := by decide +kernel
theorem dX3_apply_5 : decode cX3_apply 5 = .ok (.aload_n 0, 1) := by decide +kernel
theorem dX3_apply_6 : decode cX3_apply 6 = .ok (.iload_n 1, 1) := by decide +kernel
theorem dX3_apply_7 : decode cX3_apply 7 = .ok (.invokevirtual 76, 3) := by decide +kernel
theorem dX3_apply_10 : decode cX3_apply 10 = .ok (.aload_n 0, 1) := by decide +kernel
theorem dX3_apply_11 : decode cX3_apply 11 = .ok (.getfield 19, 3) := by decide +kernel
theorem dX3_apply_14 : decode cX3_apply 14 = .ok (.getfield 79, 3) := by decide +kernel
theorem dX3_apply_17 : decode cX3_apply 17 = .ok (.iload_n 1, 1) := by decide +kernel
theorem dX3_apply_18 : decode cX3_apply 18 = .ok (.iaload, 1) := by decide +kernel
theorem dX3_apply_19 : decode cX3_apply 19 = .ok (.iconst (-1), 1) := by decide +kernel
theorem dX3_apply_20 : decode cX3_apply 20 = .ok (.if_icmp .ne 13, 3) := by decide +kernel
theorem dX3_apply_23 : decode cX3_apply 23 = .ok (.new 46, 3) := by decide +kernel
theorem dX3_apply_26 : decode cX3_apply 26 = .ok (.dup, 1) := by decide +kernel
theorem dX3_apply_27 : decode cX3_apply 27 = .ok (.ldc 88, 2) := by decide +kernel
theorem dX3_apply_29 : decode cX3_apply 29 = .ok (.invokespecial 50, 3) := by decide +kernel
theorem dX3_apply_32 : decode cX3_apply 32 = .ok (.athrow, 1) := by decide +kernel
theorem dX3_apply_33 : decode cX3_apply 33 = .ok (.aload_n 0, 1) := by decide +kernel
theorem dX3_apply_34 : decode cX3_apply 34 = .ok (.iload_n 1, 1) := by decide +kernel
theorem dX3_apply_35 : decode cX3_apply 35 = .ok (.invokevirtual 70, 3) := by decide +kernel
theorem dX3_apply_38 : decode cX3_apply 38 = .ok (.aload_n 0, 1) := by decide +kernel
theorem dX3_apply_39 : decode cX3_apply 39 = .ok (.getfield 19, 3) := by decide +kernel
theorem dX3_apply_42 : decode cX3_apply 42 = .ok (.getfield 85, 3) := by decide +kernel
theorem dX3_apply_45 : decode cX3_apply 45 = .ok (.iload_n 1, 1) := by decide +kernel
theorem dX3_apply_46 : decode cX3_apply 46 = .ok (.iaload, 1) := by decide +kernel
theorem dX3_apply_47 : decode cX3_apply 47 = .ok (.ireturn, 1) := by decide +kernel
theorem dX3_payBack_0 : decode cX3_payBack 0 = .ok (.aload_n 0, 1) := by decide +kernel
theorem dX3_payBack_1 : decode cX3_payBack 1 = .ok (.iload_n 1, 1) := by decide +kernel
theorem dX3_payBack_2 : decode cX3_payBack 2 = .ok (.invokevirtual 73, 3) := by decide +kernel
theorem dX3_payBack_5 : decode cX3_payBack 5 = .ok (.aload_n 0, 1) := by decide +kernel
theorem dX3_payBack_6 : decode cX3_payBack 6 = .ok (.iload_n 1, 1) := by decide +kernel
theorem dX3_payBack_7 : decode cX3_payBack 7 = .ok (.invokevirtual 76, 3) := by decide +kernel
theorem dX3_payBack_10 : decode cX3_payBack 10 = .ok (.aload_n 0, 1) := by decide +kernel
theorem dX3_payBack_11 : decode cX3_payBack 11 = .ok (.getfield 19, 3) := by decide +kernel
theorem dX3_payBack_14 : decode cX3_payBack 14 = .ok (.getfield 85, 3) := by decide +kernel
theorem dX3_payBack_17 : decode cX3_payBack 17 = .ok (.iload_n 1, 1) := by decide +kernel
theorem dX3_payBack_18 : decode cX3_payBack 18 = .ok (.iaload, 1) := by decide +kernel
theorem dX3_payBack_19 : decode cX3_payBack 19 = .ok (.ifCond .ne 13, 3) := by decide +kernel
theorem dX3_payBack_22 : decode cX3_payBack 22 = .ok (.new 46, 3) := by decide +kernel
theorem dX3_payBack_25 : decode cX3_payBack 25 = .ok (.dup, 1) := by decide +kernel
theorem dX3_payBack_26 : decode cX3_payBack 26 = .ok (.ldc 90, 2) := by decide +kernel
theorem dX3_payBack_28 : decode cX3_payBack 28 = .ok (.invokespecial 50, 3) := by decide +kernel
theorem dX3_payBack_31 : decode cX3_payBack 31 = .ok (.athrow, 1) := by decide +kernel
theorem dX3_payBack_32 : decode cX3_payBack 32 = .ok (.aload_n 0, 1) := by decide +kernel
theorem dX3_payBack_33 : decode cX3_payBack 33 = .ok (.getfield 19, 3) := by decide +kernel
theorem dX3_payBack_36 : decode cX3_payBack 36 = .ok (.iload_n 1, 1) := by decide +kernel
theorem dX3_payBack_37 : decode cX3_payBack 37 = .ok (.invokevirtual 92, 3) := by decide +kernel
theorem dX3_payBack_40 : decode cX3_payBack 40 = .ok (.ireturn, 1) := by decide +kernel
theorem dX3_bounce_0 : decode cX3_bounce 0 = .ok (.aload_n 0, 1) := by decide +kernel
theorem dX3_bounce_1 : decode cX3_bounce 1 = .ok (.iload_n 1, 1) := by decide +kernel
theorem dX3_bounce_2 : decode cX3_bounce 2 = .ok (.invokevirtual 73, 3) := by decide +kernel
theorem dX3_bounce_5 : decode cX3_bounce 5 = .ok (.aload_n 0, 1) := by decide +kernel
theorem dX3_bounce_6 : decode cX3_bounce 6 = .ok (.iload_n 1, 1) := by decide +kernel
theorem dX3_bounce_7 : decode cX3_bounce 7 = .ok (.invokevirtual 76, 3) := by decide +kernel
theorem dX3_bounce_10 : decode cX3_bounce 10 = .ok (.aload_n 0, 1) := by decide +kernel
theorem dX3_bounce_11 : decode cX3_bounce 11 = .ok (.getfield 19, 3) := by decide +kernel
theorem dX3_bounce_14 : decode cX3_bounce 14 = .ok (.getfield 96, 3) := by decide +kernel
theorem dX3_bounce_17 : decode cX3_bounce 17 = .ok (.iload_n 1, 1) := by decide +kernel
theorem dX3_bounce_18 : decode cX3_bounce 18 = .ok (.iaload, 1) := by decide +kernel
theorem dX3_bounce_19 : decode cX3_bounce 19 = .ok (.ifCond .le 13, 3) := by decide +kernel
theorem dX3_bounce_22 : decode cX3_bounce 22 = .ok (.new 46, 3) := by decide +kernel
theorem dX3_bounce_25 : decode cX3_bounce 25 = .ok (.dup, 1) := by decide +kernel
theorem dX3_bounce_26 : decode cX3_bounce 26 = .ok (.ldc 99, 2) := by decide +kernel
theorem dX3_bounce_28 : decode cX3_bounce 28 = .ok (.invokespecial 50, 3) := by decide +kernel
theorem dX3_bounce_31 : decode cX3_bounce 31 = .ok (.athrow, 1) := by decide +kernel
theorem dX3_bounce_32 : decode cX3_bounce 32 = .ok (.iconst 0, 1) := by decide +kernel
theorem dX3_bounce_33 : decode cX3_bounce 33 = .ok (.istore_n 2, 1) := by decide +kernel
theorem dX3_bounce_34 : decode cX3_bounce 34 = .ok (.iconst 0, 1) := by decide +kernel
theorem dX3_bounce_35 : decode cX3_bounce 35 = .ok (.istore_n 3, 1) := by decide +kernel
theorem dX3_bounce_36 : decode cX3_bounce 36 = .ok (.iload_n 3, 1) := by decide +kernel
theorem dX3_bounce_37 : decode cX3_bounce 37 = .ok (.aload_n 0, 1) := by decide +kernel
theorem dX3_bounce_38 : decode cX3_bounce 38 = .ok (.getfield 10, 3) := by decide +kernel
theorem dX3_bounce_41 : decode cX3_bounce 41 = .ok (.getfield 43, 3) := by decide +kernel
theorem dX3_bounce_44 : decode cX3_bounce 44 = .ok (.if_icmp .ge 51, 3) := by decide +kernel
theorem dX3_bounce_47 : decode cX3_bounce 47 = .ok (.aload_n 0, 1) := by decide +kernel
theorem dX3_bounce_48 : decode cX3_bounce 48 = .ok (.getfield 19, 3) := by decide +kernel
theorem dX3_bounce_51 : decode cX3_bounce 51 = .ok (.iload_n 1, 1) := by decide +kernel
theorem dX3_bounce_52 : decode cX3_bounce 52 = .ok (.iload_n 3, 1) := by decide +kernel
theorem dX3_bounce_53 : decode cX3_bounce 53 = .ok (.invokevirtual 101, 3) := by decide +kernel
theorem dX3_bounce_56 : decode cX3_bounce 56 = .ok (.ifCond .eq 33, 3) := by decide +kernel
theorem dX3_bounce_59 : decode cX3_bounce 59 = .ok (.aload_n 0, 1) := by decide +kernel
theorem dX3_bounce_60 : decode cX3_bounce 60 = .ok (.getfield 10, 3) := by decide +kernel
theorem dX3_bounce_63 : decode cX3_bounce 63 = .ok (.iload_n 3, 1) := by decide +kernel
theorem dX3_bounce_64 : decode cX3_bounce 64 = .ok (.iload_n 1, 1) := by decide +kernel
theorem dX3_bounce_65 : decode cX3_bounce 65 = .ok (.aload_n 0, 1) := by decide +kernel
theorem dX3_bounce_66 : decode cX3_bounce 66 = .ok (.getfield 19, 3) := by decide +kernel
theorem dX3_bounce_69 : decode cX3_bounce 69 = .ok (.iload_n 1, 1) := by decide +kernel
theorem dX3_bounce_70 : decode cX3_bounce 70 = .ok (.iload_n 3, 1) := by decide +kernel
theorem dX3_bounce_71 : decode cX3_bounce 71 = .ok (.invokevirtual 105, 3) := by decide +kernel
theorem dX3_bounce_74 : decode cX3_bounce 74 = .ok (.invokevirtual 108, 3) := by decide +kernel
theorem dX3_bounce_77 : decode cX3_bounce 77 = .ok (.aload_n 0, 1) := by decide +kernel
theorem dX3_bounce_78 : decode cX3_bounce 78 = .ok (.getfield 19, 3) := by decide +kernel
theorem dX3_bounce_81 : decode cX3_bounce 81 = .ok (.iload_n 1, 1) := by decide +kernel
theorem dX3_bounce_82 : decode cX3_bounce 82 = .ok (.iload_n 3, 1) := by decide +kernel
theorem dX3_bounce_83 : decode cX3_bounce 83 = .ok (.invokevirtual 111, 3) := by decide +kernel
theorem dX3_bounce_86 : decode cX3_bounce 86 = .ok (.iinc 2 1, 3) := by decide +kernel
theorem dX3_bounce_89 : decode cX3_bounce 89 = .ok (.iinc 3 1, 3) := by decide +kernel
theorem dX3_bounce_92 : decode cX3_bounce 92 = .ok (.goto (-56), 3) := by decide +kernel
theorem dX3_bounce_95 : decode cX3_bounce 95 = .ok (.aload_n 0, 1) := by decide +kernel
theorem dX3_bounce_96 : decode cX3_bounce 96 = .ok (.getfield 19, 3) := by decide +kernel
theorem dX3_bounce_99 : decode cX3_bounce 99 = .ok (.iload_n 1, 1) := by decide +kernel
theorem dX3_bounce_100 : decode cX3_bounce 100 = .ok (.invokevirtual 114, 3) := by decide +kernel
theorem dX3_bounce_103 : decode cX3_bounce 103 = .ok (.iload_n 2, 1) := by decide +kernel
theorem dX3_bounce_104 : decode cX3_bounce 104 = .ok (.ireturn, 1) := by decide +kernel
theorem dX3_settle_0 : decode cX3_settle 0 = .ok (.aload_n 0, 1) := by decide +kernel
theorem dX3_settle_1 : decode cX3_settle 1 = .ok (.iload_n 1, 1) := by decide +kernel
theorem dX3_settle_2 : decode cX3_settle 2 = .ok (.invokevirtual 117, 3) := by decide +kernel
theorem dX3_settle_5 : decode cX3_settle 5 = .ok (.aload_n 0, 1) := by decide +kernel
theorem dX3_settle_6 : decode cX3_settle 6 = .ok (.getfield 10, 3) := by decide +kernel
theorem dX3_settle_9 : decode cX3_settle 9 = .ok (.getfield 120, 3) := by decide +kernel
theorem dX3_settle_12 : decode cX3_settle 12 = .ok (.iload_n 1, 1) := by decide +kernel
theorem dX3_settle_13 : decode cX3_settle 13 = .ok (.iaload, 1) := by decide +kernel
theorem dX3_settle_14 : decode cX3_settle 14 = .ok (.ifCond .ne 13, 3) := by decide +kernel
theorem dX3_settle_17 : decode cX3_settle 17 = .ok (.new 46, 3) := by decide +kernel
theorem dX3_settle_20 : decode cX3_settle 20 = .ok (.dup, 1) := by decide +kernel
theorem dX3_settle_21 : decode cX3_settle 21 = .ok (.ldc 123, 2) := by decide +kernel
theorem dX3_settle_23 : decode cX3_settle 23 = .ok (.invokespecial 50, 3) := by decide +kernel
theorem dX3_settle_26 : decode cX3_settle 26 = .ok (.athrow, 1) := by decide +kernel
theorem dX3_settle_27 : decode cX3_settle 27 = .ok (.aload_n 0, 1) := by decide +kernel
theorem dX3_settle_28 : decode cX3_settle 28 = .ok (.getfield 10, 3) := by decide +kernel
theorem dX3_settle_31 : decode cX3_settle 31 = .ok (.iload_n 1, 1) := by decide +kernel
theorem dX3_settle_32 : decode cX3_settle 32 = .ok (.iload_n 2, 1) := by decide +kernel
theorem dX3_settle_33 : decode cX3_settle 33 = .ok (.invokevirtual 125, 3) := by decide +kernel
theorem dX3_settle_36 : decode cX3_settle 36 = .ok (.ireturn, 1) := by decide +kernel
theorem dX3_advance_0 : decode cX3_advance 0 = .ok (.iload_n 1, 1) := by decide +kernel
theorem dX3_advance_1 : decode cX3_advance 1 = .ok (.iconst 1, 1) := by decide +kernel
theorem dX3_advance_2 : decode cX3_advance 2 = .ok (.bipush 100, 2) := by decide +kernel
theorem dX3_advance_4 : decode cX3_advance 4 = .ok (.invokestatic 39, 3) := by decide +kernel
theorem dX3_advance_7 : decode cX3_advance 7 = .ok (.aload_n 0, 1) := by decide +kernel
theorem dX3_advance_8 : decode cX3_advance 8 = .ok (.dup, 1) := by decide +kernel
theorem dX3_advance_9 : decode cX3_advance 9 = .ok (.getfield 30, 3) := by decide +kernel
theorem dX3_advance_12 : decode cX3_advance 12 = .ok (.iload_n 1, 1) := by decide +kernel
theorem dX3_advance_13 : decode cX3_advance 13 = .ok (.iadd, 1) := by decide +kernel
theorem dX3_advance_14 : decode cX3_advance 14 = .ok (.putfield 30, 3) := by decide +kernel
theorem dX3_advance_17 : decode cX3_advance 17 = .ok (.aload_n 0, 1) := by decide +kernel
theorem dX3_advance_18 : decode cX3_advance 18 = .ok (.getfield 30, 3) := by decide +kernel
theorem dX3_advance_21 : decode cX3_advance 21 = .ok (.ireturn, 1) := by decide +kernel
theorem dX3_bills_0 : decode cX3_bills 0 = .ok (.aload_n 0, 1) := by decide +kernel
theorem dX3_bills_1 : decode cX3_bills 1 = .ok (.getfield 10, 3) := by decide +kernel
theorem dX3_bills_4 : decode cX3_bills 4 = .ok (.getfield 43, 3) := by decide +kernel
theorem dX3_bills_7 : decode cX3_bills 7 = .ok (.ireturn, 1) := by decide +kernel
theorem dX3_open_0 : decode cX3_open 0 = .ok (.aload_n 0, 1) := by decide +kernel
theorem dX3_open_1 : decode cX3_open 1 = .ok (.iload_n 1, 1) := by decide +kernel
theorem dX3_open_2 : decode cX3_open 2 = .ok (.invokevirtual 117, 3) := by decide +kernel
theorem dX3_open_5 : decode cX3_open 5 = .ok (.aload_n 0, 1) := by decide +kernel
theorem dX3_open_6 : decode cX3_open 6 = .ok (.getfield 10, 3) := by decide +kernel
theorem dX3_open_9 : decode cX3_open 9 = .ok (.iload_n 1, 1) := by decide +kernel
theorem dX3_open_10 : decode cX3_open 10 = .ok (.invokevirtual 129, 3) := by decide +kernel
theorem dX3_open_13 : decode cX3_open 13 = .ok (.ireturn, 1) := by decide +kernel
theorem dX3_due_0 : decode cX3_due 0 = .ok (.aload_n 0, 1) := by decide +kernel
theorem dX3_due_1 : decode cX3_due 1 = .ok (.iload_n 1, 1) := by decide +kernel
theorem dX3_due_2 : decode cX3_due 2 = .ok (.invokevirtual 117, 3) := by decide +kernel
theorem dX3_due_5 : decode cX3_due 5 = .ok (.aload_n 0, 1) := by decide +kernel
theorem dX3_due_6 : decode cX3_due 6 = .ok (.getfield 10, 3) := by decide +kernel
theorem dX3_due_9 : decode cX3_due 9 = .ok (.iload_n 1, 1) := by decide +kernel
theorem dX3_due_10 : decode cX3_due 10 = .ok (.aload_n 0, 1) := by decide +kernel
theorem dX3_due_11 : decode cX3_due 11 = .ok (.getfield 30, 3) := by decide +kernel
theorem dX3_due_14 : decode cX3_due 14 = .ok (.invokevirtual 132, 3) := by decide +kernel
theorem dX3_due_17 : decode cX3_due 17 = .ok (.ireturn, 1) := by decide +kernel
theorem dX3_paid_0 : decode cX3_paid 0 = .ok (.aload_n 0, 1) := by decide +kernel
theorem dX3_paid_1 : decode cX3_paid 1 = .ok (.iload_n 1, 1) := by decide +kernel
theorem dX3_paid_2 : decode cX3_paid 2 = .ok (.invokevirtual 117, 3) := by decide +kernel
theorem dX3_paid_5 : decode cX3_paid 5 = .ok (.aload_n 0, 1) := by decide +kernel
theorem dX3_paid_6 : decode cX3_paid 6 = .ok (.getfield 10, 3) := by decide +kernel
theorem dX3_paid_9 : decode cX3_paid 9 = .ok (.getfield 135, 3) := by decide +kernel
theorem dX3_paid_12 : decode cX3_paid 12 = .ok (.iload_n 1, 1) := by decide +kernel
theorem dX3_paid_13 : decode cX3_paid 13 = .ok (.iaload, 1) := by decide +kernel
theorem dX3_paid_14 : decode cX3_paid 14 = .ok (.ireturn, 1) := by decide +kernel
theorem dX3_taken_0 : decode cX3_taken 0 = .ok (.aload_n 0, 1) := by decide +kernel
theorem dX3_taken_1 : decode cX3_taken 1 = .ok (.iload_n 1, 1) := by decide +kernel
theorem dX3_taken_2 : decode cX3_taken 2 = .ok (.invokevirtual 117, 3) := by decide +kernel
theorem dX3_taken_5 : decode cX3_taken 5 = .ok (.aload_n 0, 1) := by decide +kernel
theorem dX3_taken_6 : decode cX3_taken 6 = .ok (.getfield 10, 3) := by decide +kernel
theorem dX3_taken_9 : decode cX3_taken 9 = .ok (.getfield 138, 3) := by decide +kernel
theorem dX3_taken_12 : decode cX3_taken 12 = .ok (.iload_n 1, 1) := by decide +kernel
theorem dX3_taken_13 : decode cX3_taken 13 = .ok (.iaload, 1) := by decide +kernel
theorem dX3_taken_14 : decode cX3_taken 14 = .ok (.ireturn, 1) := by decide +kernel
theorem dX3_disputed_0 : decode cX3_disputed 0 = .ok (.aload_n 0, 1) := by decide +kernel
theorem dX3_disputed_1 : decode cX3_disputed 1 = .ok (.iload_n 1, 1) := by decide +kernel
theorem dX3_disputed_2 : decode cX3_disputed 2 = .ok (.invokevirtual 117, 3) := by decide +kernel
theorem dX3_disputed_5 : decode cX3_disputed 5 = .ok (.aload_n 0, 1) := by decide +kernel
theorem dX3_disputed_6 : decode cX3_disputed 6 = .ok (.getfield 10, 3) := by decide +kernel
theorem dX3_disputed_9 : decode cX3_disputed 9 = .ok (.getfield 120, 3) := by decide +kernel
theorem dX3_disputed_12 : decode cX3_disputed 12 = .ok (.iload_n 1, 1) := by decide +kernel
theorem dX3_disputed_13 : decode cX3_disputed 13 = .ok (.iaload, 1) := by decide +kernel
theorem dX3_disputed_14 : decode cX3_disputed 14 = .ok (.ireturn, 1) := by decide +kernel
theorem dX3_writtenOff_0 : decode cX3_writtenOff 0 = .ok (.aload_n 0, 1) := by decide +kernel
theorem dX3_writtenOff_1 : decode cX3_writtenOff 1 = .ok (.iload_n 1, 1) := by decide +kernel
theorem dX3_writtenOff_2 : decode cX3_writtenOff 2 = .ok (.invokevirtual 117, 3) := by decide +kernel
theorem dX3_writtenOff_5 : decode cX3_writtenOff 5 = .ok (.aload_n 0, 1) := by decide +kernel
theorem dX3_writtenOff_6 : decode cX3_writtenOff 6 = .ok (.getfield 10, 3) := by decide +kernel
theorem dX3_writtenOff_9 : decode cX3_writtenOff 9 = .ok (.getfield 141, 3) := by decide +kernel
theorem dX3_writtenOff_12 : decode cX3_writtenOff 12 = .ok (.iload_n 1, 1) := by decide +kernel
theorem dX3_writtenOff_13 : decode cX3_writtenOff 13 = .ok (.iaload, 1) := by decide +kernel
theorem dX3_writtenOff_14 : decode cX3_writtenOff 14 = .ok (.ireturn, 1) := by decide +kernel
theorem dX3_openOf_0 : decode cX3_openOf 0 = .ok (.iload_n 1, 1) := by decide +kernel
theorem dX3_openOf_1 : decode cX3_openOf 1 = .ok (.invokestatic 34, 3) := by decide +kernel
theorem dX3_openOf_4 : decode cX3_openOf 4 = .ok (.iconst 0, 1) := by decide +kernel
theorem dX3_openOf_5 : decode cX3_openOf 5 = .ok (.istore_n 2, 1) := by decide +kernel
theorem dX3_openOf_6 : decode cX3_openOf 6 = .ok (.iconst 0, 1) := by decide +kernel
theorem dX3_openOf_7 : decode cX3_openOf 7 = .ok (.istore_n 3, 1) := by decide +kernel
theorem dX3_openOf_8 : decode cX3_openOf 8 = .ok (.iload_n 3, 1) := by decide +kernel
theorem dX3_openOf_9 : decode cX3_openOf 9 = .ok (.aload_n 0, 1) := by decide +kernel
theorem dX3_openOf_10 : decode cX3_openOf 10 = .ok (.getfield 10, 3) := by decide +kernel
theorem dX3_openOf_13 : decode cX3_openOf 13 = .ok (.getfield 43, 3) := by decide +kernel
theorem dX3_openOf_16 : decode cX3_openOf 16 = .ok (.if_icmp .ge 33, 3) := by decide +kernel
theorem dX3_openOf_19 : decode cX3_openOf 19 = .ok (.aload_n 0, 1) := by decide +kernel
theorem dX3_openOf_20 : decode cX3_openOf 20 = .ok (.getfield 10, 3) := by decide +kernel
theorem dX3_openOf_23 : decode cX3_openOf 23 = .ok (.getfield 144, 3) := by decide +kernel
theorem dX3_openOf_26 : decode cX3_openOf 26 = .ok (.iload_n 3, 1) := by decide +kernel
theorem dX3_openOf_27 : decode cX3_openOf 27 = .ok (.iaload, 1) := by decide +kernel
theorem dX3_openOf_28 : decode cX3_openOf 28 = .ok (.iload_n 1, 1) := by decide +kernel
theorem dX3_openOf_29 : decode cX3_openOf 29 = .ok (.if_icmp .ne 14, 3) := by decide +kernel
theorem dX3_openOf_32 : decode cX3_openOf 32 = .ok (.iload_n 2, 1) := by decide +kernel
theorem dX3_openOf_33 : decode cX3_openOf 33 = .ok (.aload_n 0, 1) := by decide +kernel
theorem dX3_openOf_34 : decode cX3_openOf 34 = .ok (.getfield 10, 3) := by decide +kernel
theorem dX3_openOf_37 : decode cX3_openOf 37 = .ok (.iload_n 3, 1) := by decide +kernel
theorem dX3_openOf_38 : decode cX3_openOf 38 = .ok (.invokevirtual 129, 3) := by decide +kernel
theorem dX3_openOf_41 : decode cX3_openOf 41 = .ok (.iadd, 1) := by decide +kernel
theorem dX3_openOf_42 : decode cX3_openOf 42 = .ok (.istore_n 2, 1) := by decide +kernel
theorem dX3_openOf_43 : decode cX3_openOf 43 = .ok (.iinc 3 1, 3) := by decide +kernel
theorem dX3_openOf_46 : decode cX3_openOf 46 = .ok (.goto (-38), 3) := by decide +kernel
theorem dX3_openOf_49 : decode cX3_openOf 49 = .ok (.iload_n 2, 1) := by decide +kernel
theorem dX3_openOf_50 : decode cX3_openOf 50 = .ok (.ireturn, 1) := by decide +kernel
theorem dX3_setFor_0 : decode cX3_setFor 0 = .ok (.iload_n 1, 1) := by decide +kernel
theorem dX3_setFor_1 : decode cX3_setFor 1 = .ok (.invokestatic 34, 3) := by decide +kernel
theorem dX3_setFor_4 : decode cX3_setFor 4 = .ok (.iload_n 3, 1) := by decide +kernel
theorem dX3_setFor_5 : decode cX3_setFor 5 = .ok (.ifCond .lt 8, 3) := by decide +kernel
theorem dX3_setFor_8 : decode cX3_setFor 8 = .ok (.iload_n 3, 1) := by decide +kernel
theorem dX3_setFor_9 : decode cX3_setFor 9 = .ok (.iconst 3, 1) := by decide +kernel
theorem dX3_setFor_10 : decode cX3_setFor 10 = .ok (.if_icmp .lt 13, 3) := by decide +kernel
theorem dX3_setFor_13 : decode cX3_setFor 13 = .ok (.new 145, 3) := by decide +kernel
theorem dX3_setFor_16 : decode cX3_setFor 16 = .ok (.dup, 1) := by decide +kernel
theorem dX3_setFor_17 : decode cX3_setFor 17 = .ok (.ldc 147, 2) := by decide +kernel
theorem dX3_setFor_19 : decode cX3_setFor 19 = .ok (.invokespecial 149, 3) := by decide +kernel
theorem dX3_setFor_22 : decode cX3_setFor 22 = .ok (.athrow, 1) := by decide +kernel
theorem dX3_setFor_23 : decode cX3_setFor 23 = .ok (.iload_n 2, 1) := by decide +kernel
theorem dX3_setFor_24 : decode cX3_setFor 24 = .ok (.iconst 1, 1) := by decide +kernel
theorem dX3_setFor_25 : decode cX3_setFor 25 = .ok (.if_icmp .ge 13, 3) := by decide +kernel
theorem dX3_setFor_28 : decode cX3_setFor 28 = .ok (.new 150, 3) := by decide +kernel
theorem dX3_setFor_31 : decode cX3_setFor 31 = .ok (.dup, 1) := by decide +kernel
theorem dX3_setFor_32 : decode cX3_setFor 32 = .ok (.ldc 152, 2) := by decide +kernel
theorem dX3_setFor_34 : decode cX3_setFor 34 = .ok (.invokespecial 154, 3) := by decide +kernel
theorem dX3_setFor_37 : decode cX3_setFor 37 = .ok (.athrow, 1) := by decide +kernel
theorem dX3_setFor_38 : decode cX3_setFor 38 = .ok (.aload_n 0, 1) := by decide +kernel
theorem dX3_setFor_39 : decode cX3_setFor 39 = .ok (.iload_n 1, 1) := by decide +kernel
theorem dX3_setFor_40 : decode cX3_setFor 40 = .ok (.iload_n 2, 1) := by decide +kernel
theorem dX3_setFor_41 : decode cX3_setFor 41 = .ok (.invokevirtual 155, 3) := by decide +kernel
theorem dX3_setFor_44 : decode cX3_setFor 44 = .ok (.aload_n 0, 1) := by decide +kernel
theorem dX3_setFor_45 : decode cX3_setFor 45 = .ok (.getfield 26, 3) := by decide +kernel
theorem dX3_setFor_48 : decode cX3_setFor 48 = .ok (.getfield 158, 3) := by decide +kernel
theorem dX3_setFor_51 : decode cX3_setFor 51 = .ok (.iload_n 3, 1) := by decide +kernel
theorem dX3_setFor_52 : decode cX3_setFor 52 = .ok (.iaload, 1) := by decide +kernel
theorem dX3_setFor_53 : decode cX3_setFor 53 = .ok (.ireturn, 1) := by decide +kernel
theorem dX3_receipts_0 : decode cX3_receipts 0 = .ok (.aload_n 0, 1) := by decide +kernel
theorem dX3_receipts_1 : decode cX3_receipts 1 = .ok (.getfield 19, 3) := by decide +kernel
theorem dX3_receipts_4 : decode cX3_receipts 4 = .ok (.getfield 61, 3) := by decide +kernel
theorem dX3_receipts_7 : decode cX3_receipts 7 = .ok (.ireturn, 1) := by decide +kernel
theorem dX3_customerOf_0 : decode cX3_customerOf 0 = .ok (.aload_n 0, 1) := by decide +kernel
theorem dX3_customerOf_1 : decode cX3_customerOf 1 = .ok (.iload_n 1, 1) := by decide +kernel
theorem dX3_customerOf_2 : decode cX3_customerOf 2 = .ok (.invokevirtual 73, 3) := by decide +kernel
theorem dX3_customerOf_5 : decode cX3_customerOf 5 = .ok (.aload_n 0, 1) := by decide +kernel
theorem dX3_customerOf_6 : decode cX3_customerOf 6 = .ok (.getfield 19, 3) := by decide +kernel
theorem dX3_customerOf_9 : decode cX3_customerOf 9 = .ok (.getfield 79, 3) := by decide +kernel
theorem dX3_customerOf_12 : decode cX3_customerOf 12 = .ok (.iload_n 1, 1) := by decide +kernel
theorem dX3_customerOf_13 : decode cX3_customerOf 13 = .ok (.iaload, 1) := by decide +kernel
theorem dX3_customerOf_14 : decode cX3_customerOf 14 = .ok (.ireturn, 1) := by decide +kernel
theorem dX3_appliedTo_0 : decode cX3_appliedTo 0 = .ok (.aload_n 0, 1) := by decide +kernel
theorem dX3_appliedTo_1 : decode cX3_appliedTo 1 = .ok (.iload_n 1, 1) := by decide +kernel
theorem dX3_appliedTo_2 : decode cX3_appliedTo 2 = .ok (.invokevirtual 73, 3) := by decide +kernel
theorem dX3_appliedTo_5 : decode cX3_appliedTo 5 = .ok (.aload_n 0, 1) := by decide +kernel
theorem dX3_appliedTo_6 : decode cX3_appliedTo 6 = .ok (.iload_n 2, 1) := by decide +kernel
theorem dX3_appliedTo_7 : decode cX3_appliedTo 7 = .ok (.invokevirtual 117, 3) := by decide +kernel
theorem dX3_appliedTo_10 : decode cX3_appliedTo 10 = .ok (.aload_n 0, 1) := by decide +kernel
theorem dX3_appliedTo_11 : decode cX3_appliedTo 11 = .ok (.getfield 19, 3) := by decide +kernel
theorem dX3_appliedTo_14 : decode cX3_appliedTo 14 = .ok (.iload_n 1, 1) := by decide +kernel
theorem dX3_appliedTo_15 : decode cX3_appliedTo 15 = .ok (.iload_n 2, 1) := by decide +kernel
theorem dX3_appliedTo_16 : decode cX3_appliedTo 16 = .ok (.invokevirtual 105, 3) := by decide +kernel
theorem dX3_appliedTo_19 : decode cX3_appliedTo 19 = .ok (.ireturn, 1) := by decide +kernel
theorem dX3_unapplied_0 : decode cX3_unapplied 0 = .ok (.aload_n 0, 1) := by decide +kernel
theorem dX3_unapplied_1 : decode cX3_unapplied 1 = .ok (.iload_n 1, 1) := by decide +kernel
theorem dX3_unapplied_2 : decode cX3_unapplied 2 = .ok (.invokevirtual 73, 3) := by decide +kernel
theorem dX3_unapplied_5 : decode cX3_unapplied 5 = .ok (.aload_n 0, 1) := by decide +kernel
theorem dX3_unapplied_6 : decode cX3_unapplied 6 = .ok (.getfield 19, 3) := by decide +kernel
theorem dX3_unapplied_9 : decode cX3_unapplied 9 = .ok (.getfield 85, 3) := by decide +kernel
theorem dX3_unapplied_12 : decode cX3_unapplied 12 = .ok (.iload_n 1, 1) := by decide +kernel
theorem dX3_unapplied_13 : decode cX3_unapplied 13 = .ok (.iaload, 1) := by decide +kernel
theorem dX3_unapplied_14 : decode cX3_unapplied 14 = .ok (.ireturn, 1) := by decide +kernel
theorem dX3_hasBounced_0 : decode cX3_hasBounced 0 = .ok (.aload_n 0, 1) := by decide +kernel
theorem dX3_hasBounced_1 : decode cX3_hasBounced 1 = .ok (.iload_n 1, 1) := by decide +kernel
theorem dX3_hasBounced_2 : decode cX3_hasBounced 2 = .ok (.invokevirtual 73, 3) := by decide +kernel
theorem dX3_hasBounced_5 : decode cX3_hasBounced 5 = .ok (.aload_n 0, 1) := by decide +kernel
theorem dX3_hasBounced_6 : decode cX3_hasBounced 6 = .ok (.getfield 19, 3) := by decide +kernel
theorem dX3_hasBounced_9 : decode cX3_hasBounced 9 = .ok (.getfield 161, 3) := by decide +kernel
theorem dX3_hasBounced_12 : decode cX3_hasBounced 12 = .ok (.iload_n 1, 1) := by decide +kernel
theorem dX3_hasBounced_13 : decode cX3_hasBounced 13 = .ok (.baload, 1) := by decide +kernel
theorem dX3_hasBounced_14 : decode cX3_hasBounced 14 = .ok (.ireturn, 1) := by decide +kernel
theorem dX3_day_0 : decode cX3_day 0 = .ok (.aload_n 0, 1) := by decide +kernel
theorem dX3_day_1 : decode cX3_day 1 = .ok (.getfield 30, 3) := by decide +kernel
theorem dX3_day_4 : decode cX3_day 4 = .ok (.ireturn, 1) := by decide +kernel
theorem dX3_received_0 : decode cX3_received 0 = .ok (.aload_n 0, 1) := by decide +kernel
theorem dX3_received_1 : decode cX3_received 1 = .ok (.getfield 19, 3) := by decide +kernel
theorem dX3_received_4 : decode cX3_received 4 = .ok (.aload_n 0, 1) := by decide +kernel
theorem dX3_received_5 : decode cX3_received 5 = .ok (.getfield 19, 3) := by decide +kernel
theorem dX3_received_8 : decode cX3_received 8 = .ok (.getfield 165, 3) := by decide +kernel
theorem dX3_received_11 : decode cX3_received 11 = .ok (.invokevirtual 168, 3) := by decide +kernel
theorem dX3_received_14 : decode cX3_received 14 = .ok (.ireturn, 1) := by decide +kernel
theorem dX3_applied_0 : decode cX3_applied 0 = .ok (.aload_n 0, 1) := by decide +kernel
theorem dX3_applied_1 : decode cX3_applied 1 = .ok (.getfield 19, 3) := by decide +kernel
theorem dX3_applied_4 : decode cX3_applied 4 = .ok (.aload_n 0, 1) := by decide +kernel
theorem dX3_applied_5 : decode cX3_applied 5 = .ok (.getfield 19, 3) := by decide +kernel
theorem dX3_applied_8 : decode cX3_applied 8 = .ok (.getfield 172, 3) := by decide +kernel
theorem dX3_applied_11 : decode cX3_applied 11 = .ok (.invokevirtual 168, 3) := by decide +kernel
theorem dX3_applied_14 : decode cX3_applied 14 = .ok (.ireturn, 1) := by decide +kernel
theorem dX3_allUnapplied_0 : decode cX3_allUnapplied 0 = .ok (.aload_n 0, 1) := by decide +kernel
theorem dX3_allUnapplied_1 : decode cX3_allUnapplied 1 = .ok (.getfield 19, 3) := by decide +kernel
theorem dX3_allUnapplied_4 : decode cX3_allUnapplied 4 = .ok (.aload_n 0, 1) := by decide +kernel
theorem dX3_allUnapplied_5 : decode cX3_allUnapplied 5 = .ok (.getfield 19, 3) := by decide +kernel
theorem dX3_allUnapplied_8 : decode cX3_allUnapplied 8 = .ok (.getfield 85, 3) := by decide +kernel
theorem dX3_allUnapplied_11 : decode cX3_allUnapplied 11 = .ok (.invokevirtual 168, 3) := by decide +kernel
theorem dX3_allUnapplied_14 : decode cX3_allUnapplied 14 = .ok (.ireturn, 1) := by decide +kernel
theorem dX3_paidBack_0 : decode cX3_paidBack 0 = .ok (.aload_n 0, 1) := by decide +kernel
theorem dX3_paidBack_1 : decode cX3_paidBack 1 = .ok (.getfield 19, 3) := by decide +kernel
theorem dX3_paidBack_4 : decode cX3_paidBack 4 = .ok (.aload_n 0, 1) := by decide +kernel
theorem dX3_paidBack_5 : decode cX3_paidBack 5 = .ok (.getfield 19, 3) := by decide +kernel
theorem dX3_paidBack_8 : decode cX3_paidBack 8 = .ok (.getfield 96, 3) := by decide +kernel
theorem dX3_paidBack_11 : decode cX3_paidBack 11 = .ok (.invokevirtual 168, 3) := by decide +kernel
theorem dX3_paidBack_14 : decode cX3_paidBack 14 = .ok (.ireturn, 1) := by decide +kernel
theorem dX3_bounced_0 : decode cX3_bounced 0 = .ok (.aload_n 0, 1) := by decide +kernel
theorem dX3_bounced_1 : decode cX3_bounced 1 = .ok (.getfield 19, 3) := by decide +kernel
theorem dX3_bounced_4 : decode cX3_bounced 4 = .ok (.invokevirtual 175, 3) := by decide +kernel
theorem dX3_bounced_7 : decode cX3_bounced 7 = .ok (.ireturn, 1) := by decide +kernel
theorem dX3_payNamedBills_0 : decode cX3_payNamedBills 0 = .ok (.aload_n 0, 1) := by decide +kernel
theorem dX3_payNamedBills_1 : decode cX3_payNamedBills 1 = .ok (.getfield 19, 3) := by decide +kernel
theorem dX3_payNamedBills_4 : decode cX3_payNamedBills 4 = .ok (.getfield 79, 3) := by decide +kernel
theorem dX3_payNamedBills_7 : decode cX3_payNamedBills 7 = .ok (.iload_n 1, 1) := by decide +kernel
theorem dX3_payNamedBills_8 : decode cX3_payNamedBills 8 = .ok (.iaload, 1) := by decide +kernel
theorem dX3_payNamedBills_9 : decode cX3_payNamedBills 9 = .ok (.iconst (-1), 1) := by decide +kernel
theorem dX3_payNamedBills_10 : decode cX3_payNamedBills 10 = .ok (.if_icmp .ne 20, 3) := by decide +kernel
theorem dX3_payNamedBills_13 : decode cX3_payNamedBills 13 = .ok (.aload_n 0, 1) := by decide +kernel
theorem dX3_payNamedBills_14 : decode cX3_payNamedBills 14 = .ok (.getfield 19, 3) := by decide +kernel
theorem dX3_payNamedBills_17 : decode cX3_payNamedBills 17 = .ok (.getfield 79, 3) := by decide +kernel
theorem dX3_payNamedBills_20 : decode cX3_payNamedBills 20 = .ok (.iload_n 1, 1) := by decide +kernel
theorem dX3_payNamedBills_21 : decode cX3_payNamedBills 21 = .ok (.aload_n 0, 1) := by decide +kernel
theorem dX3_payNamedBills_22 : decode cX3_payNamedBills 22 = .ok (.getfield 10, 3) := by decide +kernel
theorem dX3_payNamedBills_25 : decode cX3_payNamedBills 25 = .ok (.iload_n 2, 1) := by decide +kernel
theorem dX3_payNamedBills_26 : decode cX3_payNamedBills 26 = .ok (.invokevirtual 179, 3) := by decide +kernel
theorem dX3_payNamedBills_29 : decode cX3_payNamedBills 29 = .ok (.iastore, 1) := by decide +kernel
theorem dX3_payNamedBills_30 : decode cX3_payNamedBills 30 = .ok (.aload_n 0, 1) := by decide +kernel
theorem dX3_payNamedBills_31 : decode cX3_payNamedBills 31 = .ok (.getfield 19, 3) := by decide +kernel
theorem dX3_payNamedBills_34 : decode cX3_payNamedBills 34 = .ok (.getfield 79, 3) := by decide +kernel
theorem dX3_payNamedBills_37 : decode cX3_payNamedBills 37 = .ok (.iload_n 1, 1) := by decide +kernel
theorem dX3_payNamedBills_38 : decode cX3_payNamedBills 38 = .ok (.iaload, 1) := by decide +kernel
theorem dX3_payNamedBills_39 : decode cX3_payNamedBills 39 = .ok (.istore_n 3, 1) := by decide +kernel
theorem dX3_payNamedBills_40 : decode cX3_payNamedBills 40 = .ok (.iconst 0, 1) := by decide +kernel
theorem dX3_payNamedBills_41 : decode cX3_payNamedBills 41 = .ok (.istore 4, 2) := by decide +kernel
theorem dX3_payNamedBills_43 : decode cX3_payNamedBills 43 = .ok (.iload 4, 2) := by decide +kernel
theorem dX3_payNamedBills_45 : decode cX3_payNamedBills 45 = .ok (.aload_n 0, 1) := by decide +kernel
theorem dX3_payNamedBills_46 : decode cX3_payNamedBills 46 = .ok (.getfield 10, 3) := by decide +kernel
theorem dX3_payNamedBills_49 : decode cX3_payNamedBills 49 = .ok (.getfield 43, 3) := by decide +kernel
theorem dX3_payNamedBills_52 : decode cX3_payNamedBills 52 = .ok (.if_icmp .ge 72, 3) := by decide +kernel
theorem dX3_payNamedBills_55 : decode cX3_payNamedBills 55 = .ok (.aload_n 0, 1) := by decide +kernel
theorem dX3_payNamedBills_56 : decode cX3_payNamedBills 56 = .ok (.getfield 19, 3) := by decide +kernel
theorem dX3_payNamedBills_59 : decode cX3_payNamedBills 59 = .ok (.getfield 85, 3) := by decide +kernel
theorem dX3_payNamedBills_62 : decode cX3_payNamedBills 62 = .ok (.iload_n 1, 1) := by decide +kernel
theorem dX3_payNamedBills_63 : decode cX3_payNamedBills 63 = .ok (.iaload, 1) := by decide +kernel
theorem dX3_payNamedBills_64 : decode cX3_payNamedBills 64 = .ok (.ifCond .le 60, 3) := by decide +kernel
theorem dX3_payNamedBills_67 : decode cX3_payNamedBills 67 = .ok (.aload_n 0, 1) := by decide +kernel
theorem dX3_payNamedBills_68 : decode cX3_payNamedBills 68 = .ok (.getfield 10, 3) := by decide +kernel
theorem dX3_payNamedBills_71 : decode cX3_payNamedBills 71 = .ok (.iload 4, 2) := by decide +kernel
theorem dX3_payNamedBills_73 : decode cX3_payNamedBills 73 = .ok (.iload_n 3, 1) := by decide +kernel
theorem dX3_payNamedBills_74 : decode cX3_payNamedBills 74 = .ok (.invokevirtual 182, 3) := by decide +kernel
theorem dX3_payNamedBills_77 : decode cX3_payNamedBills 77 = .ok (.ifCond .eq 41, 3) := by decide +kernel
theorem dX3_payNamedBills_80 : decode cX3_payNamedBills 80 = .ok (.aload_n 0, 1) := by decide +kernel
theorem dX3_payNamedBills_81 : decode cX3_payNamedBills 81 = .ok (.getfield 10, 3) := by decide +kernel
theorem dX3_payNamedBills_84 : decode cX3_payNamedBills 84 = .ok (.getfield 185, 3) := by decide +kernel
theorem dX3_payNamedBills_87 : decode cX3_payNamedBills 87 = .ok (.iload 4, 2) := by decide +kernel
theorem dX3_payNamedBills_89 : decode cX3_payNamedBills 89 = .ok (.iaload, 1) := by decide +kernel
theorem dX3_payNamedBills_90 : decode cX3_payNamedBills 90 = .ok (.iload_n 2, 1) := by decide +kernel
theorem dX3_payNamedBills_91 : decode cX3_payNamedBills 91 = .ok (.if_icmp .ne 27, 3) := by decide +kernel
theorem dX3_payNamedBills_94 : decode cX3_payNamedBills 94 = .ok (.aload_n 0, 1) := by decide +kernel
theorem dX3_payNamedBills_95 : decode cX3_payNamedBills 95 = .ok (.iload_n 1, 1) := by decide +kernel
theorem dX3_payNamedBills_96 : decode cX3_payNamedBills 96 = .ok (.iload 4, 2) := by decide +kernel
theorem dX3_payNamedBills_98 : decode cX3_payNamedBills 98 = .ok (.invokevirtual 188, 3) := by decide +kernel
theorem dX3_payNamedBills_101 : decode cX3_payNamedBills 101 = .ok (.istore 5, 2) := by decide +kernel
theorem dX3_payNamedBills_103 : decode cX3_payNamedBills 103 = .ok (.iload 5, 2) := by decide +kernel
theorem dX3_payNamedBills_105 : decode cX3_payNamedBills 105 = .ok (.ifCond .ne 13, 3) := by decide +kernel
theorem dX3_payNamedBills_108 : decode cX3_payNamedBills 108 = .ok (.aload_n 0, 1) := by decide +kernel
theorem dX3_payNamedBills_109 : decode cX3_payNamedBills 109 = .ok (.getfield 10, 3) := by decide +kernel
theorem dX3_payNamedBills_112 : decode cX3_payNamedBills 112 = .ok (.iload 4, 2) := by decide +kernel
theorem dX3_payNamedBills_114 : decode cX3_payNamedBills 114 = .ok (.iload_n 1, 1) := by decide +kernel
theorem dX3_payNamedBills_115 : decode cX3_payNamedBills 115 = .ok (.invokevirtual 191, 3) := by decide +kernel
theorem dX3_payNamedBills_118 : decode cX3_payNamedBills 118 = .ok (.iinc 4 1, 3) := by decide +kernel
theorem dX3_payNamedBills_121 : decode cX3_payNamedBills 121 = .ok (.goto (-78), 3) := by decide +kernel
theorem dX3_payNamedBills_124 : decode cX3_payNamedBills 124 = .ok (.return_, 1) := by decide +kernel
theorem dX3_payOtherBills_0 : decode cX3_payOtherBills 0 = .ok (.aload_n 0, 1) := by decide +kernel
theorem dX3_payOtherBills_1 : decode cX3_payOtherBills 1 = .ok (.getfield 19, 3) := by decide +kernel
theorem dX3_payOtherBills_4 : decode cX3_payOtherBills 4 = .ok (.getfield 79, 3) := by decide +kernel
theorem dX3_payOtherBills_7 : decode cX3_payOtherBills 7 = .ok (.iload_n 1, 1) := by decide +kernel
theorem dX3_payOtherBills_8 : decode cX3_payOtherBills 8 = .ok (.iaload, 1) := by decide +kernel
theorem dX3_payOtherBills_9 : decode cX3_payOtherBills 9 = .ok (.iconst (-1), 1) := by decide +kernel
theorem dX3_payOtherBills_10 : decode cX3_payOtherBills 10 = .ok (.if_icmp .ne 4, 3) := by decide +kernel
theorem dX3_payOtherBills_13 : decode cX3_payOtherBills 13 = .ok (.return_, 1) := by decide +kernel
theorem dX3_payOtherBills_14 : decode cX3_payOtherBills 14 = .ok (.aload_n 0, 1) := by decide +kernel
theorem dX3_payOtherBills_15 : decode cX3_payOtherBills 15 = .ok (.getfield 19, 3) := by decide +kernel
theorem dX3_payOtherBills_18 : decode cX3_payOtherBills 18 = .ok (.getfield 85, 3) := by decide +kernel
theorem dX3_payOtherBills_21 : decode cX3_payOtherBills 21 = .ok (.iload_n 1, 1) := by decide +kernel
theorem dX3_payOtherBills_22 : decode cX3_payOtherBills 22 = .ok (.iaload, 1) := by decide +kernel
theorem dX3_payOtherBills_23 : decode cX3_payOtherBills 23 = .ok (.ifCond .le 8, 3) := by decide +kernel
theorem dX3_payOtherBills_26 : decode cX3_payOtherBills 26 = .ok (.aload_n 0, 1) := by decide +kernel
theorem dX3_payOtherBills_27 : decode cX3_payOtherBills 27 = .ok (.iload_n 1, 1) := by decide +kernel
theorem dX3_payOtherBills_28 : decode cX3_payOtherBills 28 = .ok (.invokevirtual 194, 3) := by decide +kernel
theorem dX3_payOtherBills_31 : decode cX3_payOtherBills 31 = .ok (.aload_n 0, 1) := by decide +kernel
theorem dX3_payOtherBills_32 : decode cX3_payOtherBills 32 = .ok (.iload_n 1, 1) := by decide +kernel
theorem dX3_payOtherBills_33 : decode cX3_payOtherBills 33 = .ok (.invokevirtual 197, 3) := by decide +kernel
theorem dX3_payOtherBills_36 : decode cX3_payOtherBills 36 = .ok (.return_, 1) := by decide +kernel
theorem dX3_payExactSet_0 : decode cX3_payExactSet 0 = .ok (.aload_n 0, 1) := by decide +kernel
theorem dX3_payExactSet_1 : decode cX3_payExactSet 1 = .ok (.aload_n 0, 1) := by decide +kernel
theorem dX3_payExactSet_2 : decode cX3_payExactSet 2 = .ok (.getfield 19, 3) := by decide +kernel
theorem dX3_payExactSet_5 : decode cX3_payExactSet 5 = .ok (.getfield 79, 3) := by decide +kernel
theorem dX3_payExactSet_8 : decode cX3_payExactSet 8 = .ok (.iload_n 1, 1) := by decide +kernel
theorem dX3_payExactSet_9 : decode cX3_payExactSet 9 = .ok (.iaload, 1) := by decide +kernel
theorem dX3_payExactSet_10 : decode cX3_payExactSet 10 = .ok (.aload_n 0, 1) := by decide +kernel
theorem dX3_payExactSet_11 : decode cX3_payExactSet 11 = .ok (.getfield 19, 3) := by decide +kernel
theorem dX3_payExactSet_14 : decode cX3_payExactSet 14 = .ok (.getfield 85, 3) := by decide +kernel
theorem dX3_payExactSet_17 : decode cX3_payExactSet 17 = .ok (.iload_n 1, 1) := by decide +kernel
theorem dX3_payExactSet_18 : decode cX3_payExactSet 18 = .ok (.iaload, 1) := by decide +kernel
theorem dX3_payExactSet_19 : decode cX3_payExactSet 19 = .ok (.invokevirtual 155, 3) := by decide +kernel
theorem dX3_payExactSet_22 : decode cX3_payExactSet 22 = .ok (.iconst 0, 1) := by decide +kernel
theorem dX3_payExactSet_23 : decode cX3_payExactSet 23 = .ok (.istore_n 2, 1) := by decide +kernel
theorem dX3_payExactSet_24 : decode cX3_payExactSet 24 = .ok (.iload_n 2, 1) := by decide +kernel
theorem dX3_payExactSet_25 : decode cX3_payExactSet 25 = .ok (.iconst 3, 1) := by decide +kernel
theorem dX3_payExactSet_26 : decode cX3_payExactSet 26 = .ok (.if_icmp .ge 41, 3) := by decide +kernel
theorem dX3_payExactSet_29 : decode cX3_payExactSet 29 = .ok (.aload_n 0, 1) := by decide +kernel
theorem dX3_payExactSet_30 : decode cX3_payExactSet 30 = .ok (.getfield 26, 3) := by decide +kernel
theorem dX3_payExactSet_33 : decode cX3_payExactSet 33 = .ok (.getfield 158, 3) := by decide +kernel
theorem dX3_payExactSet_36 : decode cX3_payExactSet 36 = .ok (.iload_n 2, 1) := by decide +kernel
theorem dX3_payExactSet_37 : decode cX3_payExactSet 37 = .ok (.iaload, 1) := by decide +kernel
theorem dX3_payExactSet_38 : decode cX3_payExactSet 38 = .ok (.istore_n 3, 1) := by decide +kernel
theorem dX3_payExactSet_39 : decode cX3_payExactSet 39 = .ok (.iload_n 3, 1) := by decide +kernel
theorem dX3_payExactSet_40 : decode cX3_payExactSet 40 = .ok (.ifCond .lt 21, 3) := by decide +kernel
theorem dX3_payExactSet_43 : decode cX3_payExactSet 43 = .ok (.iload_n 3, 1) := by decide +kernel
theorem dX3_payExactSet_44 : decode cX3_payExactSet 44 = .ok (.aload_n 0, 1) := by decide +kernel
theorem dX3_payExactSet_45 : decode cX3_payExactSet 45 = .ok (.getfield 10, 3) := by decide +kernel
theorem dX3_payExactSet_48 : decode cX3_payExactSet 48 = .ok (.getfield 43, 3) := by decide +kernel
theorem dX3_payExactSet_51 : decode cX3_payExactSet 51 = .ok (.if_icmp .ge 10, 3) := by decide +kernel
theorem dX3_payExactSet_54 : decode cX3_payExactSet 54 = .ok (.aload_n 0, 1) := by decide +kernel
theorem dX3_payExactSet_55 : decode cX3_payExactSet 55 = .ok (.iload_n 1, 1) := by decide +kernel
theorem dX3_payExactSet_56 : decode cX3_payExactSet 56 = .ok (.iload_n 3, 1) := by decide +kernel
theorem dX3_payExactSet_57 : decode cX3_payExactSet 57 = .ok (.invokevirtual 188, 3) := by decide +kernel
theorem dX3_payExactSet_60 : decode cX3_payExactSet 60 = .ok (.pop, 1) := by decide +kernel
theorem dX3_payExactSet_61 : decode cX3_payExactSet 61 = .ok (.iinc 2 1, 3) := by decide +kernel
theorem dX3_payExactSet_64 : decode cX3_payExactSet 64 = .ok (.goto (-40), 3) := by decide +kernel
theorem dX3_payExactSet_67 : decode cX3_payExactSet 67 = .ok (.return_, 1) := by decide +kernel
theorem dX3_payOldestBills_0 : decode cX3_payOldestBills 0 = .ok (.aload_n 0, 1) := by decide +kernel
theorem dX3_payOldestBills_1 : decode cX3_payOldestBills 1 = .ok (.getfield 19, 3) := by decide +kernel
theorem dX3_payOldestBills_4 : decode cX3_payOldestBills 4 = .ok (.getfield 79, 3) := by decide +kernel
theorem dX3_payOldestBills_7 : decode cX3_payOldestBills 7 = .ok (.iload_n 1, 1) := by decide +kernel
theorem dX3_payOldestBills_8 : decode cX3_payOldestBills 8 = .ok (.iaload, 1) := by decide +kernel
theorem dX3_payOldestBills_9 : decode cX3_payOldestBills 9 = .ok (.istore_n 2, 1) := by decide +kernel
theorem dX3_payOldestBills_10 : decode cX3_payOldestBills 10 = .ok (.iconst 0, 1) := by decide +kernel
theorem dX3_payOldestBills_11 : decode cX3_payOldestBills 11 = .ok (.istore_n 3, 1) := by decide +kernel
theorem dX3_payOldestBills_12 : decode cX3_payOldestBills 12 = .ok (.iload_n 3, 1) := by decide +kernel
theorem dX3_payOldestBills_13 : decode cX3_payOldestBills 13 = .ok (.aload_n 0, 1) := by decide +kernel
theorem dX3_payOldestBills_14 : decode cX3_payOldestBills 14 = .ok (.getfield 10, 3) := by decide +kernel
theorem dX3_payOldestBills_17 : decode cX3_payOldestBills 17 = .ok (.getfield 43, 3) := by decide +kernel
theorem dX3_payOldestBills_20 : decode cX3_payOldestBills 20 = .ok (.if_icmp .ge 40, 3) := by decide +kernel
theorem dX3_payOldestBills_23 : decode cX3_payOldestBills 23 = .ok (.aload_n 0, 1) := by decide +kernel
theorem dX3_payOldestBills_24 : decode cX3_payOldestBills 24 = .ok (.getfield 19, 3) := by decide +kernel
theorem dX3_payOldestBills_27 : decode cX3_payOldestBills 27 = .ok (.getfield 85, 3) := by decide +kernel
theorem dX3_payOldestBills_30 : decode cX3_payOldestBills 30 = .ok (.iload_n 1, 1) := by decide +kernel
theorem dX3_payOldestBills_31 : decode cX3_payOldestBills 31 = .ok (.iaload, 1) := by decide +kernel
theorem dX3_payOldestBills_32 : decode cX3_payOldestBills 32 = .ok (.ifCond .le 28, 3) := by decide +kernel
theorem dX3_payOldestBills_35 : decode cX3_payOldestBills 35 = .ok (.aload_n 0, 1) := by decide +kernel
theorem dX3_payOldestBills_36 : decode cX3_payOldestBills 36 = .ok (.getfield 10, 3) := by decide +kernel
theorem dX3_payOldestBills_39 : decode cX3_payOldestBills 39 = .ok (.iload_n 3, 1) := by decide +kernel
theorem dX3_payOldestBills_40 : decode cX3_payOldestBills 40 = .ok (.iload_n 2, 1) := by decide +kernel
theorem dX3_payOldestBills_41 : decode cX3_payOldestBills 41 = .ok (.invokevirtual 182, 3) := by decide +kernel
theorem dX3_payOldestBills_44 : decode cX3_payOldestBills 44 = .ok (.ifCond .eq 10, 3) := by decide +kernel
theorem dX3_payOldestBills_47 : decode cX3_payOldestBills 47 = .ok (.aload_n 0, 1) := by decide +kernel
theorem dX3_payOldestBills_48 : decode cX3_payOldestBills 48 = .ok (.iload_n 1, 1) := by decide +kernel
theorem dX3_payOldestBills_49 : decode cX3_payOldestBills 49 = .ok (.iload_n 3, 1) := by decide +kernel
theorem dX3_payOldestBills_50 : decode cX3_payOldestBills 50 = .ok (.invokevirtual 188, 3) := by decide +kernel
theorem dX3_payOldestBills_53 : decode cX3_payOldestBills 53 = .ok (.pop, 1) := by decide +kernel
theorem dX3_payOldestBills_54 : decode cX3_payOldestBills 54 = .ok (.iinc 3 1, 3) := by decide +kernel
theorem dX3_payOldestBills_57 : decode cX3_payOldestBills 57 = .ok (.goto (-45), 3) := by decide +kernel
theorem dX3_payOldestBills_60 : decode cX3_payOldestBills 60 = .ok (.return_, 1) := by decide +kernel
theorem dX3_payBill_0 : decode cX3_payBill 0 = .ok (.aload_n 0, 1) := by decide +kernel
theorem dX3_payBill_1 : decode cX3_payBill 1 = .ok (.getfield 10, 3) := by decide +kernel
theorem dX3_payBill_4 : decode cX3_payBill 4 = .ok (.iload_n 2, 1) := by decide +kernel
theorem dX3_payBill_5 : decode cX3_payBill 5 = .ok (.aload_n 0, 1) := by decide +kernel
theorem dX3_payBill_6 : decode cX3_payBill 6 = .ok (.getfield 30, 3) := by decide +kernel
theorem dX3_payBill_9 : decode cX3_payBill 9 = .ok (.invokevirtual 132, 3) := by decide +kernel
theorem dX3_payBill_12 : decode cX3_payBill 12 = .ok (.istore_n 3, 1) := by decide +kernel
theorem dX3_payBill_13 : decode cX3_payBill 13 = .ok (.aload_n 0, 1) := by decide +kernel
theorem dX3_payBill_14 : decode cX3_payBill 14 = .ok (.getfield 19, 3) := by decide +kernel
theorem dX3_payBill_17 : decode cX3_payBill 17 = .ok (.getfield 85, 3) := by decide +kernel
theorem dX3_payBill_20 : decode cX3_payBill 20 = .ok (.iload_n 1, 1) := by decide +kernel
theorem dX3_payBill_21 : decode cX3_payBill 21 = .ok (.iaload, 1) := by decide +kernel
theorem dX3_payBill_22 : decode cX3_payBill 22 = .ok (.istore 4, 2) := by decide +kernel
theorem dX3_payBill_24 : decode cX3_payBill 24 = .ok (.iload 4, 2) := by decide +kernel
theorem dX3_payBill_26 : decode cX3_payBill 26 = .ok (.iload_n 3, 1) := by decide +kernel
theorem dX3_payBill_27 : decode cX3_payBill 27 = .ok (.if_icmp .lt 7, 3) := by decide +kernel
theorem dX3_payBill_30 : decode cX3_payBill 30 = .ok (.iconst 1, 1) := by decide +kernel
theorem dX3_payBill_31 : decode cX3_payBill 31 = .ok (.goto 4, 3) := by decide +kernel
theorem dX3_payBill_34 : decode cX3_payBill 34 = .ok (.iconst 0, 1) := by decide +kernel
theorem dX3_payBill_35 : decode cX3_payBill 35 = .ok (.istore 5, 2) := by decide +kernel
theorem dX3_payBill_37 : decode cX3_payBill 37 = .ok (.iload 5, 2) := by decide +kernel
theorem dX3_payBill_39 : decode cX3_payBill 39 = .ok (.ifCond .eq 16, 3) := by decide +kernel
theorem dX3_payBill_42 : decode cX3_payBill 42 = .ok (.aload_n 0, 1) := by decide +kernel
theorem dX3_payBill_43 : decode cX3_payBill 43 = .ok (.getfield 10, 3) := by decide +kernel
theorem dX3_payBill_46 : decode cX3_payBill 46 = .ok (.iload_n 2, 1) := by decide +kernel
theorem dX3_payBill_47 : decode cX3_payBill 47 = .ok (.iload_n 1, 1) := by decide +kernel
theorem dX3_payBill_48 : decode cX3_payBill 48 = .ok (.aload_n 0, 1) := by decide +kernel
theorem dX3_payBill_49 : decode cX3_payBill 49 = .ok (.getfield 30, 3) := by decide +kernel
theorem dX3_payBill_52 : decode cX3_payBill 52 = .ok (.invokevirtual 200, 3) := by decide +kernel
theorem dX3_payBill_55 : decode cX3_payBill 55 = .ok (.iload 5, 2) := by decide +kernel
theorem dX3_payBill_57 : decode cX3_payBill 57 = .ok (.ifCond .eq 7, 3) := by decide +kernel
theorem dX3_payBill_60 : decode cX3_payBill 60 = .ok (.iload_n 3, 1) := by decide +kernel
theorem dX3_payBill_61 : decode cX3_payBill 61 = .ok (.goto 5, 3) := by decide +kernel
theorem dX3_payBill_64 : decode cX3_payBill 64 = .ok (.iload 4, 2) := by decide +kernel
theorem dX3_payBill_66 : decode cX3_payBill 66 = .ok (.istore 6, 2) := by decide +kernel
theorem dX3_payBill_68 : decode cX3_payBill 68 = .ok (.aload_n 0, 1) := by decide +kernel
theorem dX3_payBill_69 : decode cX3_payBill 69 = .ok (.getfield 10, 3) := by decide +kernel
theorem dX3_payBill_72 : decode cX3_payBill 72 = .ok (.getfield 135, 3) := by decide +kernel
theorem dX3_payBill_75 : decode cX3_payBill 75 = .ok (.iload_n 2, 1) := by decide +kernel
theorem dX3_payBill_76 : decode cX3_payBill 76 = .ok (.dup2, 1) := by decide +kernel
theorem dX3_payBill_77 : decode cX3_payBill 77 = .ok (.iaload, 1) := by decide +kernel
theorem dX3_payBill_78 : decode cX3_payBill 78 = .ok (.iload 6, 2) := by decide +kernel
theorem dX3_payBill_80 : decode cX3_payBill 80 = .ok (.iadd, 1) := by decide +kernel
theorem dX3_payBill_81 : decode cX3_payBill 81 = .ok (.iastore, 1) := by decide +kernel
theorem dX3_payBill_82 : decode cX3_payBill 82 = .ok (.aload_n 0, 1) := by decide +kernel
theorem dX3_payBill_83 : decode cX3_payBill 83 = .ok (.getfield 19, 3) := by decide +kernel
theorem dX3_payBill_86 : decode cX3_payBill 86 = .ok (.iload_n 1, 1) := by decide +kernel
theorem dX3_payBill_87 : decode cX3_payBill 87 = .ok (.iload_n 2, 1) := by decide +kernel
theorem dX3_payBill_88 : decode cX3_payBill 88 = .ok (.iload 6, 2) := by decide +kernel
theorem dX3_payBill_90 : decode cX3_payBill 90 = .ok (.invokevirtual 203, 3) := by decide +kernel
theorem dX3_payBill_93 : decode cX3_payBill 93 = .ok (.iload 5, 2) := by decide +kernel
theorem dX3_payBill_95 : decode cX3_payBill 95 = .ok (.ireturn, 1) := by decide +kernel
theorem dX3_chooseExactSet_0 : decode cX3_chooseExactSet 0 = .ok (.aload_n 0, 1) := by decide +kernel
theorem dX3_chooseExactSet_1 : decode cX3_chooseExactSet 1 = .ok (.getfield 26, 3) := by decide +kernel
theorem dX3_chooseExactSet_4 : decode cX3_chooseExactSet 4 = .ok (.invokevirtual 206, 3) := by decide +kernel
theorem dX3_chooseExactSet_7 : decode cX3_chooseExactSet 7 = .ok (.iconst 0, 1) := by decide +kernel
theorem dX3_chooseExactSet_8 : decode cX3_chooseExactSet 8 = .ok (.istore_n 3, 1) := by decide +kernel
theorem dX3_chooseExactSet_9 : decode cX3_chooseExactSet 9 = .ok (.iload_n 3, 1) := by decide +kernel
theorem dX3_chooseExactSet_10 : decode cX3_chooseExactSet 10 = .ok (.aload_n 0, 1) := by decide +kernel
theorem dX3_chooseExactSet_11 : decode cX3_chooseExactSet 11 = .ok (.getfield 10, 3) := by decide +kernel
theorem dX3_chooseExactSet_14 : decode cX3_chooseExactSet 14 = .ok (.getfield 43, 3) := by decide +kernel
theorem dX3_chooseExactSet_17 : decode cX3_chooseExactSet 17 = .ok (.if_icmp .ge 41, 3) := by decide +kernel
theorem dX3_chooseExactSet_20 : decode cX3_chooseExactSet 20 = .ok (.aload_n 0, 1) := by decide +kernel
theorem dX3_chooseExactSet_21 : decode cX3_chooseExactSet 21 = .ok (.getfield 10, 3) := by decide +kernel
theorem dX3_chooseExactSet_24 : decode cX3_chooseExactSet 24 = .ok (.iload_n 3, 1) := by decide +kernel
theorem dX3_chooseExactSet_25 : decode cX3_chooseExactSet 25 = .ok (.iload_n 1, 1) := by decide +kernel
theorem dX3_chooseExactSet_26 : decode cX3_chooseExactSet 26 = .ok (.invokevirtual 182, 3) := by decide +kernel
theorem dX3_chooseExactSet_29 : decode cX3_chooseExactSet 29 = .ok (.ifCond .eq 23, 3) := by decide +kernel
theorem dX3_chooseExactSet_32 : decode cX3_chooseExactSet 32 = .ok (.aload_n 0, 1) := by decide +kernel
theorem dX3_chooseExactSet_33 : decode cX3_chooseExactSet 33 = .ok (.getfield 26, 3) := by decide +kernel
theorem dX3_chooseExactSet_36 : decode cX3_chooseExactSet 36 = .ok (.iload_n 3, 1) := by decide +kernel
theorem dX3_chooseExactSet_37 : decode cX3_chooseExactSet 37 = .ok (.aload_n 0, 1) := by decide +kernel
theorem dX3_chooseExactSet_38 : decode cX3_chooseExactSet 38 = .ok (.getfield 10, 3) := by decide +kernel
theorem dX3_chooseExactSet_41 : decode cX3_chooseExactSet 41 = .ok (.iload_n 3, 1) := by decide +kernel
theorem dX3_chooseExactSet_42 : decode cX3_chooseExactSet 42 = .ok (.aload_n 0, 1) := by decide +kernel
theorem dX3_chooseExactSet_43 : decode cX3_chooseExactSet 43 = .ok (.getfield 30, 3) := by decide +kernel
theorem dX3_chooseExactSet_46 : decode cX3_chooseExactSet 46 = .ok (.invokevirtual 132, 3) := by decide +kernel
theorem dX3_chooseExactSet_49 : decode cX3_chooseExactSet 49 = .ok (.invokevirtual 209, 3) := by decide +kernel
theorem dX3_chooseExactSet_52 : decode cX3_chooseExactSet 52 = .ok (.iinc 3 1, 3) := by decide +kernel
theorem dX3_chooseExactSet_55 : decode cX3_chooseExactSet 55 = .ok (.goto (-46), 3) := by decide +kernel
theorem dX3_chooseExactSet_58 : decode cX3_chooseExactSet 58 = .ok (.aload_n 0, 1) := by decide +kernel
theorem dX3_chooseExactSet_59 : decode cX3_chooseExactSet 59 = .ok (.getfield 26, 3) := by decide +kernel
theorem dX3_chooseExactSet_62 : decode cX3_chooseExactSet 62 = .ok (.iload_n 2, 1) := by decide +kernel
theorem dX3_chooseExactSet_63 : decode cX3_chooseExactSet 63 = .ok (.invokevirtual 212, 3) := by decide +kernel
theorem dX3_chooseExactSet_66 : decode cX3_chooseExactSet 66 = .ok (.return_, 1) := by decide +kernel
theorem dX3_requireCustomer_0 : decode cX3_requireCustomer 0 = .ok (.iload_n 0, 1) := by decide +kernel
theorem dX3_requireCustomer_1 : decode cX3_requireCustomer 1 = .ok (.ifCond .lt 9, 3) := by decide +kernel
theorem dX3_requireCustomer_4 : decode cX3_requireCustomer 4 = .ok (.iload_n 0, 1) := by decide +kernel
theorem dX3_requireCustomer_5 : decode cX3_requireCustomer 5 = .ok (.bipush 8, 2) := by decide +kernel
theorem dX3_requireCustomer_7 : decode cX3_requireCustomer 7 = .ok (.if_icmp .lt 13, 3) := by decide +kernel
theorem dX3_requireCustomer_10 : decode cX3_requireCustomer 10 = .ok (.new 145, 3) := by decide +kernel
theorem dX3_requireCustomer_13 : decode cX3_requireCustomer 13 = .ok (.dup, 1) := by decide +kernel
theorem dX3_requireCustomer_14 : decode cX3_requireCustomer 14 = .ok (.ldc 215, 2) := by decide +kernel
theorem dX3_requireCustomer_16 : decode cX3_requireCustomer 16 = .ok (.invokespecial 149, 3) := by decide +kernel
theorem dX3_requireCustomer_19 : decode cX3_requireCustomer 19 = .ok (.athrow, 1) := by decide +kernel
theorem dX3_requireCustomer_20 : decode cX3_requireCustomer 20 = .ok (.return_, 1) := by decide +kernel
theorem dX3_requireBill_0 : decode cX3_requireBill 0 = .ok (.iload_n 1, 1) := by decide +kernel
theorem dX3_requireBill_1 : decode cX3_requireBill 1 = .ok (.ifCond .lt 14, 3) := by decide +kernel
theorem dX3_requireBill_4 : decode cX3_requireBill 4 = .ok (.iload_n 1, 1) := by decide +kernel
theorem dX3_requireBill_5 : decode cX3_requireBill 5 = .ok (.aload_n 0, 1) := by decide +kernel
theorem dX3_requireBill_6 : decode cX3_requireBill 6 = .ok (.getfield 10, 3) := by decide +kernel
theorem dX3_requireBill_9 : decode cX3_requireBill 9 = .ok (.getfield 43, 3) := by decide +kernel
theorem dX3_requireBill_12 : decode cX3_requireBill 12 = .ok (.if_icmp .lt 13, 3) := by decide +kernel
theorem dX3_requireBill_15 : decode cX3_requireBill 15 = .ok (.new 145, 3) := by decide +kernel
theorem dX3_requireBill_18 : decode cX3_requireBill 18 = .ok (.dup, 1) := by decide +kernel
theorem dX3_requireBill_19 : decode cX3_requireBill 19 = .ok (.ldc 217, 2) := by decide +kernel
theorem dX3_requireBill_21 : decode cX3_requireBill 21 = .ok (.invokespecial 149, 3) := by decide +kernel
theorem dX3_requireBill_24 : decode cX3_requireBill 24 = .ok (.athrow, 1) := by decide +kernel
theorem dX3_requireBill_25 : decode cX3_requireBill 25 = .ok (.return_, 1) := by decide +kernel
theorem dX3_requireReceipt_0 : decode cX3_requireReceipt 0 = .ok (.iload_n 1, 1) := by decide +kernel
theorem dX3_requireReceipt_1 : decode cX3_requireReceipt 1 = .ok (.ifCond .lt 14, 3) := by decide +kernel
theorem dX3_requireReceipt_4 : decode cX3_requireReceipt 4 = .ok (.iload_n 1, 1) := by decide +kernel
theorem dX3_requireReceipt_5 : decode cX3_requireReceipt 5 = .ok (.aload_n 0, 1) := by decide +kernel
theorem dX3_requireReceipt_6 : decode cX3_requireReceipt 6 = .ok (.getfield 19, 3) := by decide +kernel
theorem dX3_requireReceipt_9 : decode cX3_requireReceipt 9 = .ok (.getfield 61, 3) := by decide +kernel
theorem dX3_requireReceipt_12 : decode cX3_requireReceipt 12 = .ok (.if_icmp .lt 13, 3) := by decide +kernel
theorem dX3_requireReceipt_15 : decode cX3_requireReceipt 15 = .ok (.new 145, 3) := by decide +kernel
theorem dX3_requireReceipt_18 : decode cX3_requireReceipt 18 = .ok (.dup, 1) := by decide +kernel
theorem dX3_requireReceipt_19 : decode cX3_requireReceipt 19 = .ok (.ldc 219, 2) := by decide +kernel
theorem dX3_requireReceipt_21 : decode cX3_requireReceipt 21 = .ok (.invokespecial 149, 3) := by decide +kernel
theorem dX3_requireReceipt_24 : decode cX3_requireReceipt 24 = .ok (.athrow, 1) := by decide +kernel
theorem dX3_requireReceipt_25 : decode cX3_requireReceipt 25 = .ok (.return_, 1) := by decide +kernel
theorem dX3_requireNotBounced_0 : decode cX3_requireNotBounced 0 = .ok (.aload_n 0, 1) := by decide +kernel
theorem dX3_requireNotBounced_1 : decode cX3_requireNotBounced 1 = .ok (.getfield 19, 3) := by decide +kernel
theorem dX3_requireNotBounced_4 : decode cX3_requireNotBounced 4 = .ok (.getfield 161, 3) := by decide +kernel
theorem dX3_requireNotBounced_7 : decode cX3_requireNotBounced 7 = .ok (.iload_n 1, 1) := by decide +kernel
theorem dX3_requireNotBounced_8 : decode cX3_requireNotBounced 8 = .ok (.baload, 1) := by decide +kernel
theorem dX3_requireNotBounced_9 : decode cX3_requireNotBounced 9 = .ok (.ifCond .eq 13, 3) := by decide +kernel
theorem dX3_requireNotBounced_12 : decode cX3_requireNotBounced 12 = .ok (.new 46, 3) := by decide +kernel
theorem dX3_requireNotBounced_15 : decode cX3_requireNotBounced 15 = .ok (.dup, 1) := by decide +kernel
theorem dX3_requireNotBounced_16 : decode cX3_requireNotBounced 16 = .ok (.ldc 221, 2) := by decide +kernel
theorem dX3_requireNotBounced_18 : decode cX3_requireNotBounced 18 = .ok (.invokespecial 50, 3) := by decide +kernel
theorem dX3_requireNotBounced_21 : decode cX3_requireNotBounced 21 = .ok (.athrow, 1) := by decide +kernel
theorem dX3_requireNotBounced_22 : decode cX3_requireNotBounced 22 = .ok (.return_, 1) := by decide +kernel
theorem dX3_requireWithin_0 : decode cX3_requireWithin 0 = .ok (.iload_n 0, 1) := by decide +kernel
theorem dX3_requireWithin_1 : decode cX3_requireWithin 1 = .ok (.iload_n 1, 1) := by decide +kernel
theorem dX3_requireWithin_2 : decode cX3_requireWithin 2 = .ok (.if_icmp .lt 8, 3) := by decide +kernel
theorem dX3_requireWithin_5 : decode cX3_requireWithin 5 = .ok (.iload_n 0, 1) := by decide +kernel
theorem dX3_requireWithin_6 : decode cX3_requireWithin 6 = .ok (.iload_n 2, 1) := by decide +kernel
theorem dX3_requireWithin_7 : decode cX3_requireWithin 7 = .ok (.if_icmp .le 13, 3) := by decide +kernel
theorem dX3_requireWithin_10 : decode cX3_requireWithin 10 = .ok (.new 150, 3) := by decide +kernel
theorem dX3_requireWithin_13 : decode cX3_requireWithin 13 = .ok (.dup, 1) := by decide +kernel
theorem dX3_requireWithin_14 : decode cX3_requireWithin 14 = .ok (.ldc 223, 2) := by decide +kernel
theorem dX3_requireWithin_16 : decode cX3_requireWithin 16 = .ok (.invokespecial 154, 3) := by decide +kernel
theorem dX3_requireWithin_19 : decode cX3_requireWithin 19 = .ok (.athrow, 1) := by decide +kernel
theorem dX3_requireWithin_20 : decode cX3_requireWithin 20 = .ok (.return_, 1) := by decide +kernel
theorem dX3_discountOf_0 : decode cX3_discountOf 0 = .ok (.iload_n 0, 1) := by decide +kernel
theorem dX3_discountOf_1 : decode cX3_discountOf 1 = .ok (.i2l, 1) := by decide +kernel
theorem dX3_discountOf_2 : decode cX3_discountOf 2 = .ok (.iload_n 1, 1) := by decide +kernel
theorem dX3_discountOf_3 : decode cX3_discountOf 3 = .ok (.i2l, 1) := by decide +kernel
theorem dX3_discountOf_4 : decode cX3_discountOf 4 = .ok (.lmul, 1) := by decide +kernel
theorem dX3_discountOf_5 : decode cX3_discountOf 5 = .ok (.ldc2_w 225, 3) := by decide +kernel
theorem dX3_discountOf_8 : decode cX3_discountOf 8 = .ok (.ldiv, 1) := by decide +kernel
theorem dX3_discountOf_9 : decode cX3_discountOf 9 = .ok (.l2i, 1) := by decide +kernel
theorem dX3_discountOf_10 : decode cX3_discountOf 10 = .ok (.ireturn, 1) := by decide +kernel

def dcO (am rt : Int32) : Int32 := (am.toInt64 * rt.toInt64 / 10000).toInt32
def payS (B R : Nat → Nat → Int32) (rc b : Nat) (td : Int32) : Int32 := if R 3 rc < dueN B b td then R 3 rc else dueN B b td
def payB (B R : Nat → Nat → Int32) (rc b : Nat) (td : Int32) : Nat → Nat → Int32 := if R 3 rc < dueN B b td then pt B 5 b (B 5 b + R 3 rc) else pt (tkD B b (nI rc) td) 5 b (tkD B b (nI rc) td 5 b + dueN B b td)
def payR (B R : Nat → Nat → Int32) (rc b : Nat) (td : Int32) : Nat → Nat → Int32 := addP R rc b (payS B R rc b td)
theorem tkD_n {B : Nat → Nat → Int32} {i : Nat} {rc dy : Int32} : tkD B i rc dy 11 0 = B 11 0 := by
  unfold tkD
  split
  · rfl
  · rfl
theorem payB_n {B R : Nat → Nat → Int32} {rc b : Nat} {td : Int32} : payB B R rc b td 11 0 = B 11 0 := by
  unfold payB
  split
  · rfl
  · exact tkD_n
theorem dsp_n {B : Nat → Nat → Int32} {i : Nat} {rc : Int32} : dsp B i rc 11 0 = B 11 0 := rfl
theorem not_lt_of_ge32 {x y : Int32} (h : y ≤ x) : ¬ x < y := Int32.not_lt.mpr h
theorem lt_of_nge32 {x y : Int32} (h : ¬ y ≤ x) : x < y := Int32.not_le.mp h
theorem ix_of {x : Int32} {n : Nat} (hn : n < 2 ^ 31) (h0 : ¬ x < 0) (h : x < nI n) : ∃ j, j < n ∧ x = nI j := by
  obtain ⟨j, hj, rfl⟩ := nI_of h0
  exact ⟨j, (nI_ltI hj hn).mp h, rfl⟩
def oldL (rc : Nat) (cu td : Int32) : Nat → Nat → (Nat → Nat → Int32) → (Nat → Nat → Int32) → (Nat → Nat → Int32) × (Nat → Nat → Int32)
  | 0, _, B, R => (B, R)
  | k + 1, i, B, R => if R 3 rc ≤ 0 then (B, R) else if B 0 i = cu ∧ ¬ opn B i ≤ 0 then oldL rc cu td k (i + 1) (payB B R rc i td) (payR B R rc i td) else oldL rc cu td k (i + 1) B R
def ofL (B : Nat → Nat → Int32) (cu td : Int32) : Nat → Nat → Nat → (Nat → Nat → Int32) → (Nat → Nat → Int32) × Nat
  | 0, _, mm, E => (E, mm)
  | k + 1, i, mm, E => if B 0 i = cu ∧ ¬ opn B i ≤ 0 then ofL B cu td k (i + 1) (mm + 1) (offE E mm (nI i) (dueN B i td)) else ofL B cu td k (i + 1) mm E
/-- what is chosen of the bills that are offered -/
def cesE (B E : Nat → Nat → Int32) (cu sm td : Int32) (n : Nat) : Nat → Nat → Int32 := chE (ofL B cu td n 0 0 (clrE E)).1 sm (ofL B cu td n 0 0 (clrE E)).2
def exP (E : Nat → Nat → Int32) (rc : Nat) (td : Int32) (n : Nat) : Nat → Nat → (Nat → Nat → Int32) → (Nat → Nat → Int32) → (Nat → Nat → Int32) × (Nat → Nat → Int32)
  | 0, _, B, R => (B, R)
  | k + 1, i, B, R => if ¬ E 2 i < 0 ∧ E 2 i < nI n then exP E rc td n k (i + 1) (payB B R rc (E 2 i).toNatClampNeg td) (payR B R rc (E 2 i).toNatClampNeg td) else exP E rc td n k (i + 1) B R
theorem exP_n {E : Nat → Nat → Int32} {rc : Nat} {td : Int32} {n : Nat} : ∀ {k i : Nat} {B R : Nat → Nat → Int32}, (exP E rc td n k i B R).1 11 0 = B 11 0
  | 0, _, _, _ => rfl
  | k + 1, i, B, R => by
    rw [exP]
    split
    · rw [exP_n, payB_n]
    · rw [exP_n]
theorem oldL_n {rc : Nat} {cu td : Int32} : ∀ {k i : Nat} {B R : Nat → Nat → Int32}, (oldL rc cu td k i B R).1 11 0 = B 11 0
  | 0, _, _, _ => rfl
  | k + 1, i, B, R => by
    rw [oldL]
    split
    · rfl
    · split
      · rw [oldL_n, payB_n]
      · rw [oldL_n]
/-- the steps 2 and 3 -/
def othS (B R E : Nat → Nat → Int32) (rc n : Nat) (td : Int32) : (Nat → Nat → Int32) × (Nat → Nat → Int32) × (Nat → Nat → Int32) :=
  if R 0 rc = -1 then (B, R, E) else if R 3 rc ≤ 0 then ((oldL rc (R 0 rc) td n 0 B R).1, (oldL rc (R 0 rc) td n 0 B R).2, E)
  else ((oldL rc ((exP (cesE B E (R 0 rc) (R 3 rc) td n) rc td n 3 0 B R).2 0 rc) td n 0 (exP (cesE B E (R 0 rc) (R 3 rc) td n) rc td n 3 0 B R).1 (exP (cesE B E (R 0 rc) (R 3 rc) td n) rc td n 3 0 B R).2).1, (oldL rc ((exP (cesE B E (R 0 rc) (R 3 rc) td n) rc td n 3 0 B R).2 0 rc) td n 0 (exP (cesE B E (R 0 rc) (R 3 rc) td n) rc td n 3 0 B R).1 (exP (cesE B E (R 0 rc) (R 3 rc) td n) rc td n 3 0 B R).2).2, cesE B E (R 0 rc) (R 3 rc) td n)
def namL (rc : Nat) (rf cu td : Int32) : Nat → Nat → (Nat → Nat → Int32) → (Nat → Nat → Int32) → (Nat → Nat → Int32) × (Nat → Nat → Int32)
  | 0, _, B, R => (B, R)
  | k + 1, i, B, R => if R 3 rc ≤ 0 then (B, R) else if (B 0 i = cu ∧ ¬ opn B i ≤ 0) ∧ B 2 i = rf then (if ¬ R 3 rc < dueN B i td then namL rc rf cu td k (i + 1) (payB B R rc i td) (payR B R rc i td) else namL rc rf cu td k (i + 1) (dsp (payB B R rc i td) i (nI rc)) (payR B R rc i td)) else namL rc rf cu td k (i + 1) B R
/-- step 1 -/
def namS (B R : Nat → Nat → Int32) (rc : Nat) (rf : Int32) (n : Nat) (td : Int32) : (Nat → Nat → Int32) × (Nat → Nat → Int32) :=
  if R 0 rc = -1 then namL rc rf ((pt R 0 rc (nmd B rf n 0)) 0 rc) td n 0 B (pt R 0 rc (nmd B rf n 0)) else namL rc rf (R 0 rc) td n 0 B R
set_option maxHeartbeats 4000000 in
set_option maxRecDepth 100000 in
theorem c_X3_requireCustomer (l : Launch) (D : va_G) (cI cZ : ClassId) (a : Nat → Nat) (sz : Nat) (cu : Int32) (h1 : ¬ cu < 0) (h2 : cu < 8) : Met l yX3_requireCustomer wsX3_requireCustomer ({ frames := 0, cells := 0, slots := 0, locals := 0 } : Room) (va_Pc [.int (cu)] (PreW D cI cZ ([] : va_W) sz)) (va_Qv (fun (u : Unit) => True) (fun (u : Unit) => PostW D cI cZ (va_A ([] : va_W) sz) ([] : va_W)) (va_A ([] : va_W) sz)) 0 0 (va_A ([] : va_W) sz) := by
  refine Met.ofW (cc := cX3_requireCustomer) (maxL := 1) (ret := none) (by decide) rfl ?_
  intro p e s m args below meth c s₁ BB hml hv
  obtain ⟨rfl, hsz, hP, hK, hD0⟩ := hv
  have hx := BB.exec
  have hb := BB.bytes
  have hr := BB.returns
  have hts := atoms_spec (ws := wsX3_requireCustomer) BB.pre
  have hown : s.vm.findClass RX3 = some m.cls := findClass_of_methodNamed BB.named
  have hlocks := BB.notSynchronized
  clear BB
  subst hsz
  have hD := hD0.self (sz := s.heap.size)
  clear hD0
  generalize hAe : va_A ([] : va_W) s.heap.size = A at hD ⊢
  have hA : ∀ q : Nat, s.heap.size ≤ q → A q := fun q h => by rw [← hAe]; exact Or.inr h
  clear hAe
  have hS : va_S A s.heap s.heap [] := va_S.rf
  have hl := lv_entry ([.int (cu)]) (n := 1) (Nat.le_of_ble_eq_true rfl)
  rw [lg_entry_eq]
  generalize (lg_sl ([.int (cu)]) ++ List.replicate (1 - (lg_sl ([.int (cu)])).length) Slot.unset).toArray = ls at hl ⊢
  have hl : lv_has ls 1 [(0, .int (cu))] := hl
  generalize hHe : s.heap = H at hP
  have hS : va_S A s.heap H [] := by rw [← hHe]; exact va_S.rf
  clear hHe
  generalize hLe : ([] : List Loc) = locs at hS ⊢
  clear hLe
  refine lv_iload_n hx hb dX3_requireCustomer_0 rfl (lv_at hl 0 rfl) ?_
  refine lv_if_lt (tgt := 10) hx hb dX3_requireCustomer_1 (by decide) (fun c1 => ?_) (fun c1 => ?_)
  · -- 1 taken
    exact absurd c1 h1
  · -- 1 on
    refine lv_iload_n hx hb dX3_requireCustomer_4 rfl (lv_at hl 0 rfl) ?_
    refine lv_bipush (v := 8) hx hb dX3_requireCustomer_5 (by decide) ?_
    refine lv_icmp_lt (tgt := 20) hx hb dX3_requireCustomer_7 (by decide) (fun c7 => ?_) (fun c7 => ?_)
    · -- 7 taken
      exact W.vret hx hb hr (fun t ht hW => ⟨⟨(), rfl, trivial, by rw [ht]; exact hP, va_K.moved hW.alike hK, hD⟩, hS.F ht⟩) hS.2.2 dX3_requireCustomer_20
    · -- 7 on
      exact absurd h2 c7
set_option maxHeartbeats 4000000 in
set_option maxRecDepth 100000 in
theorem c_X3_requireWithin (l : Launch) (D : va_G) (cI cZ : ClassId) (a : Nat → Nat) (sz : Nat) (vv : Int32) (lo : Int32) (hi : Int32) (h1 : ¬ vv < lo) (h2 : vv ≤ hi) : Met l yX3_requireWithin wsX3_requireWithin ({ frames := 0, cells := 0, slots := 0, locals := 0 } : Room) (va_Pc [.int (vv), .int (lo), .int (hi)] (PreW D cI cZ ([] : va_W) sz)) (va_Qv (fun (u : Unit) => True) (fun (u : Unit) => PostW D cI cZ (va_A ([] : va_W) sz) ([] : va_W)) (va_A ([] : va_W) sz)) 0 0 (va_A ([] : va_W) sz) := by
  refine Met.ofW (cc := cX3_requireWithin) (maxL := 3) (ret := none) (by decide) rfl ?_
  intro p e s m args below meth c s₁ BB hml hv
  obtain ⟨rfl, hsz, hP, hK, hD0⟩ := hv
  have hx := BB.exec
  have hb := BB.bytes
  have hr := BB.returns
  have hts := atoms_spec (ws := wsX3_requireWithin) BB.pre
  have hown : s.vm.findClass RX3 = some m.cls := findClass_of_methodNamed BB.named
  have hlocks := BB.notSynchronized
  clear BB
  subst hsz
  have hD := hD0.self (sz := s.heap.size)
  clear hD0
  generalize hAe : va_A ([] : va_W) s.heap.size = A at hD ⊢
  have hA : ∀ q : Nat, s.heap.size ≤ q → A q := fun q h => by rw [← hAe]; exact Or.inr h
  clear hAe
  have hS : va_S A s.heap s.heap [] := va_S.rf
  have hl := lv_entry ([.int (vv), .int (lo), .int (hi)]) (n := 3) (Nat.le_of_ble_eq_true rfl)
  rw [lg_entry_eq]
  generalize (lg_sl ([.int (vv), .int (lo), .int (hi)]) ++ List.replicate (3 - (lg_sl ([.int (vv), .int (lo), .int (hi)])).length) Slot.unset).toArray = ls at hl ⊢
  have hl : lv_has ls 3 [(0, .int (vv)), (1, .int (lo)), (2, .int (hi))] := hl
  generalize hHe : s.heap = H at hP
  have hS : va_S A s.heap H [] := by rw [← hHe]; exact va_S.rf
  clear hHe
  generalize hLe : ([] : List Loc) = locs at hS ⊢
  clear hLe
  refine lv_iload_n hx hb dX3_requireWithin_0 rfl (lv_at hl 0 rfl) ?_
  refine lv_iload_n hx hb dX3_requireWithin_1 rfl (lv_at hl 1 rfl) ?_
  refine lv_icmp_lt (tgt := 10) hx hb dX3_requireWithin_2 (by decide) (fun c2 => ?_) (fun c2 => ?_)
  · -- 2 taken
    exact absurd c2 h1
  · -- 2 on
    refine lv_iload_n hx hb dX3_requireWithin_5 rfl (lv_at hl 0 rfl) ?_
    refine lv_iload_n hx hb dX3_requireWithin_6 rfl (lv_at hl 2 rfl) ?_
    refine lv_icmp_le (tgt := 20) hx hb dX3_requireWithin_7 (by decide) (fun c7 => ?_) (fun c7 => ?_)
    · -- 7 taken
      exact W.vret hx hb hr (fun t ht hW => ⟨⟨(), rfl, trivial, by rw [ht]; exact hP, va_K.moved hW.alike hK, hD⟩, hS.F ht⟩) hS.2.2 dX3_requireWithin_20
    · -- 7 on
      exact absurd h2 c7
set_option maxHeartbeats 4000000 in
set_option maxRecDepth 100000 in
theorem c_X3_requireBill (l : Launch) (D : va_G) (cI cZ : ClassId) (a : Nat → Nat) (sz : Nat) (B : Nat → Nat → Int32) (R : Nat → Nat → Int32) (E : Nat → Nat → Int32) (td : Int32) (vv : Int32) (h1 : ¬ vv < 0) (h2 : vv < B 11 0) : Met l yX3_requireBill wsX3_requireBill ({ frames := 0, cells := 0, slots := 0, locals := 0 } : Room) (va_Pc [.ref (a 0), .int (vv)] (PreW D cI cZ (wCA a cI cZ B R E (td)) sz)) (va_Qv (fun (u : Unit) => True) (fun (u : Unit) => PostW D cI cZ (va_A (wCA a cI cZ B R E (td)) sz) (wCA a cI cZ B R E (td))) (va_A (wCA a cI cZ B R E (td)) sz)) 0 0 (va_A (wCA a cI cZ B R E (td)) sz) := by
  refine Met.ofW (cc := cX3_requireBill) (maxL := 2) (ret := none) (by decide) rfl ?_
  intro p e s m args below meth c s₁ BB hml hv
  obtain ⟨rfl, hsz, hP, hK, hD0⟩ := hv
  have hx := BB.exec
  have hb := BB.bytes
  have hr := BB.returns
  have hts := atoms_spec (ws := wsX3_requireBill) BB.pre
  have hown : s.vm.findClass RX3 = some m.cls := findClass_of_methodNamed BB.named
  have hlocks := BB.notSynchronized
  clear BB
  subst hsz
  have hD := hD0.self (sz := s.heap.size)
  clear hD0
  generalize hAe : va_A (wCA a cI cZ B R E (td)) s.heap.size = A at hD ⊢
  have hA : ∀ q : Nat, s.heap.size ≤ q → A q := fun q h => by rw [← hAe]; exact Or.inr h
  clear hAe
  have hS : va_S A s.heap s.heap [] := va_S.rf
  have hl := lv_entry ([.ref (a 0), .int (vv)]) (n := 2) (Nat.le_of_ble_eq_true rfl)
  rw [lg_entry_eq]
  generalize (lg_sl ([.ref (a 0), .int (vv)]) ++ List.replicate (2 - (lg_sl ([.ref (a 0), .int (vv)])).length) Slot.unset).toArray = ls at hl ⊢
  have hl : lv_has ls 2 [(0, .ref (a 0)), (1, .int (vv))] := hl
  generalize hHe : s.heap = H at hP
  have hS : va_S A s.heap H [] := by rw [← hHe]; exact va_S.rf
  clear hHe
  generalize hLe : ([] : List Loc) = locs at hS ⊢
  clear hLe
  refine lv_iload_n hx hb dX3_requireBill_0 rfl (lv_at hl 1 rfl) ?_
  refine lv_if_lt (tgt := 15) hx hb dX3_requireBill_1 (by decide) (fun c1 => ?_) (fun c1 => ?_)
  · -- 1 taken
    exact absurd c1 h1
  · -- 1 on
    refine lv_iload_n hx hb dX3_requireBill_4 rfl (lv_at hl 1 rfl) ?_
    refine lv_aload_n hx hb dX3_requireBill_5 rfl (lv_at hl 0 rfl) ?_
    refine va_get (D := D) (ci := 3) (v := .ref (a 1)) (C := RX3) (T := TX3) (N := 4) hx hb hts (fun w h => List.mem_cons_of_mem _ (List.mem_append_left _ (List.mem_append_left _ (List.mem_append_right _ h)))) hown hK hP 0 rfl rfl 0 (by decide) (hts (.fieldLink RX3 10 "CashAllocator" "billBook" "LCashAllocator$BillBook;") (by decide +kernel)) (fun _ h9 => h9) rfl dX3_requireBill_6 ?_
    refine va_get (D := D) (ci := 0) (v := .int (B 11 (0))) (C := RX0) (T := TX0) (N := 12) hx hb hts (fun w h => List.mem_cons_of_mem _ (List.mem_append_left _ (List.mem_append_right _ h))) hown hK hP 1 rfl rfl 11 (by decide) (hts (.fieldLink RX3 43 "CashAllocator$BillBook" "count" "I") (by decide +kernel)) (fun _ h9 => h9) rfl dX3_requireBill_9 ?_
    refine lv_icmp_lt (tgt := 25) hx hb dX3_requireBill_12 (by decide) (fun c12 => ?_) (fun c12 => ?_)
    · -- 12 taken
      exact W.vret hx hb hr (fun t ht hW => ⟨⟨(), rfl, trivial, by rw [ht]; exact hP, va_K.moved hW.alike hK, hD⟩, hS.F ht⟩) hS.2.2 dX3_requireBill_25
    · -- 12 on
      exact absurd h2 c12
set_option maxHeartbeats 4000000 in
set_option maxRecDepth 100000 in
theorem c_X3_requireReceipt (l : Launch) (D : va_G) (cI cZ : ClassId) (a : Nat → Nat) (sz : Nat) (B : Nat → Nat → Int32) (R : Nat → Nat → Int32) (E : Nat → Nat → Int32) (td : Int32) (vv : Int32) (h1 : ¬ vv < 0) (h2 : vv < R 8 0) : Met l yX3_requireReceipt wsX3_requireReceipt ({ frames := 0, cells := 0, slots := 0, locals := 0 } : Room) (va_Pc [.ref (a 0), .int (vv)] (PreW D cI cZ (wCA a cI cZ B R E (td)) sz)) (va_Qv (fun (u : Unit) => True) (fun (u : Unit) => PostW D cI cZ (va_A (wCA a cI cZ B R E (td)) sz) (wCA a cI cZ B R E (td))) (va_A (wCA a cI cZ B R E (td)) sz)) 0 0 (va_A (wCA a cI cZ B R E (td)) sz) := by
  refine Met.ofW (cc := cX3_requireReceipt) (maxL := 2) (ret := none) (by decide) rfl ?_
  intro p e s m args below meth c s₁ BB hml hv
  obtain ⟨rfl, hsz, hP, hK, hD0⟩ := hv
  have hx := BB.exec
  have hb := BB.bytes
  have hr := BB.returns
  have hts := atoms_spec (ws := wsX3_requireReceipt) BB.pre
  have hown : s.vm.findClass RX3 = some m.cls := findClass_of_methodNamed BB.named
  have hlocks := BB.notSynchronized
  clear BB
  subst hsz
  have hD := hD0.self (sz := s.heap.size)
  clear hD0
  generalize hAe : va_A (wCA a cI cZ B R E (td)) s.heap.size = A at hD ⊢
  have hA : ∀ q : Nat, s.heap.size ≤ q → A q := fun q h => by rw [← hAe]; exact Or.inr h
  clear hAe
  have hS : va_S A s.heap s.heap [] := va_S.rf
  have hl := lv_entry ([.ref (a 0), .int (vv)]) (n := 2) (Nat.le_of_ble_eq_true rfl)
  rw [lg_entry_eq]
  generalize (lg_sl ([.ref (a 0), .int (vv)]) ++ List.replicate (2 - (lg_sl ([.ref (a 0), .int (vv)])).length) Slot.unset).toArray = ls at hl ⊢
  have hl : lv_has ls 2 [(0, .ref (a 0)), (1, .int (vv))] := hl
  generalize hHe : s.heap = H at hP
  have hS : va_S A s.heap H [] := by rw [← hHe]; exact va_S.rf
  clear hHe
  generalize hLe : ([] : List Loc) = locs at hS ⊢
  clear hLe
  refine lv_iload_n hx hb dX3_requireReceipt_0 rfl (lv_at hl 1 rfl) ?_
  refine lv_if_lt (tgt := 15) hx hb dX3_requireReceipt_1 (by decide) (fun c1 => ?_) (fun c1 => ?_)
  · -- 1 taken
    exact absurd c1 h1
  · -- 1 on
    refine lv_iload_n hx hb dX3_requireReceipt_4 rfl (lv_at hl 1 rfl) ?_
    refine lv_aload_n hx hb dX3_requireReceipt_5 rfl (lv_at hl 0 rfl) ?_
    refine va_get (D := D) (ci := 3) (v := .ref (a 13)) (C := RX3) (T := TX3) (N := 4) hx hb hts (fun w h => List.mem_cons_of_mem _ (List.mem_append_left _ (List.mem_append_left _ (List.mem_append_right _ h)))) hown hK hP 0 rfl rfl 1 (by decide) (hts (.fieldLink RX3 19 "CashAllocator" "receiptBook" "LCashAllocator$ReceiptBook;") (by decide +kernel)) (fun _ h9 => h9) rfl dX3_requireReceipt_6 ?_
    refine va_get (D := D) (ci := 2) (v := .int (R 8 (0))) (C := RX2) (T := TX2) (N := 9) hx hb hts (fun w h => List.mem_cons_of_mem _ (List.mem_append_left _ (List.mem_append_right _ h))) hown hK hP 13 rfl rfl 8 (by decide) (hts (.fieldLink RX3 61 "CashAllocator$ReceiptBook" "count" "I") (by decide +kernel)) (fun _ h9 => h9) rfl dX3_requireReceipt_9 ?_
    refine lv_icmp_lt (tgt := 25) hx hb dX3_requireReceipt_12 (by decide) (fun c12 => ?_) (fun c12 => ?_)
    · -- 12 taken
      exact W.vret hx hb hr (fun t ht hW => ⟨⟨(), rfl, trivial, by rw [ht]; exact hP, va_K.moved hW.alike hK, hD⟩, hS.F ht⟩) hS.2.2 dX3_requireReceipt_25
    · -- 12 on
      exact absurd h2 c12
set_option maxHeartbeats 4000000 in
set_option maxRecDepth 100000 in
theorem c_X3_requireNotBounced (l : Launch) (D : va_G) (cI cZ : ClassId) (a : Nat → Nat) (sz : Nat) (B : Nat → Nat → Int32) (R : Nat → Nat → Int32) (E : Nat → Nat → Int32) (td : Int32) (rc : Nat) (hrc : rc < 30) (h1 : R 5 rc = 0) : Met l yX3_requireNotBounced wsX3_requireNotBounced ({ frames := 0, cells := 0, slots := 0, locals := 0 } : Room) (va_Pc [.ref (a 0), .int (nI (rc))] (PreW D cI cZ (wCA a cI cZ B R E (td)) sz)) (va_Qv (fun (u : Unit) => True) (fun (u : Unit) => PostW D cI cZ (va_A (wCA a cI cZ B R E (td)) sz) (wCA a cI cZ B R E (td))) (va_A (wCA a cI cZ B R E (td)) sz)) 0 0 (va_A (wCA a cI cZ B R E (td)) sz) := by
  refine Met.ofW (cc := cX3_requireNotBounced) (maxL := 2) (ret := none) (by decide) rfl ?_
  intro p e s m args below meth c s₁ BB hml hv
  obtain ⟨rfl, hsz, hP, hK, hD0⟩ := hv
  have hx := BB.exec
  have hb := BB.bytes
  have hr := BB.returns
  have hts := atoms_spec (ws := wsX3_requireNotBounced) BB.pre
  have hown : s.vm.findClass RX3 = some m.cls := findClass_of_methodNamed BB.named
  have hlocks := BB.notSynchronized
  clear BB
  subst hsz
  have hD := hD0.self (sz := s.heap.size)
  clear hD0
  generalize hAe : va_A (wCA a cI cZ B R E (td)) s.heap.size = A at hD ⊢
  have hA : ∀ q : Nat, s.heap.size ≤ q → A q := fun q h => by rw [← hAe]; exact Or.inr h
  clear hAe
  have hS : va_S A s.heap s.heap [] := va_S.rf
  have hl := lv_entry ([.ref (a 0), .int (nI (rc))]) (n := 2) (Nat.le_of_ble_eq_true rfl)
  rw [lg_entry_eq]
  generalize (lg_sl ([.ref (a 0), .int (nI (rc))]) ++ List.replicate (2 - (lg_sl ([.ref (a 0), .int (nI (rc))])).length) Slot.unset).toArray = ls at hl ⊢
  have hl : lv_has ls 2 [(0, .ref (a 0)), (1, .int (nI (rc)))] := hl
  generalize hHe : s.heap = H at hP
  have hS : va_S A s.heap H [] := by rw [← hHe]; exact va_S.rf
  clear hHe
  generalize hLe : ([] : List Loc) = locs at hS ⊢
  clear hLe
  refine lv_aload_n hx hb dX3_requireNotBounced_0 rfl (lv_at hl 0 rfl) ?_
  refine va_get (D := D) (ci := 3) (v := .ref (a 13)) (C := RX3) (T := TX3) (N := 4) hx hb hts (fun w h => List.mem_cons_of_mem _ (List.mem_append_left _ (List.mem_append_left _ (List.mem_append_right _ h)))) hown hK hP 0 rfl rfl 1 (by decide) (hts (.fieldLink RX3 19 "CashAllocator" "receiptBook" "LCashAllocator$ReceiptBook;") (by decide +kernel)) (fun _ h9 => h9) rfl dX3_requireNotBounced_1 ?_
  refine va_get (D := D) (ci := 2) (v := .ref (a 19)) (C := RX2) (T := TX2) (N := 9) hx hb hts (fun w h => List.mem_cons_of_mem _ (List.mem_append_left _ (List.mem_append_right _ h))) hown hK hP 13 rfl rfl 5 (by decide) (hts (.fieldLink RX3 161 "CashAllocator$ReceiptBook" "isBounced" "[Z") (by decide +kernel)) (fun _ h9 => h9) rfl dX3_requireNotBounced_4 ?_
  refine lv_iload_n hx hb dX3_requireNotBounced_7 rfl (lv_at hl 1 rfl) ?_
  refine zbld hx hb hK hP 19 (n := 30) (f := (R 5)) rfl (rc) rfl (by omega) (by decide) dX3_requireNotBounced_8 ?_
  refine lv_if_eq (tgt := 22) hx hb dX3_requireNotBounced_9 (by decide) (fun c9 => ?_) (fun c9 => ?_)
  · -- 9 taken
    exact W.vret hx hb hr (fun t ht hW => ⟨⟨(), rfl, trivial, by rw [ht]; exact hP, va_K.moved hW.alike hK, hD⟩, hS.F ht⟩) hS.2.2 dX3_requireNotBounced_22
  · -- 9 on
    exact absurd h1 c9
set_option maxHeartbeats 4000000 in
set_option maxRecDepth 100000 in
theorem c_X3_discountOf (l : Launch) (D : va_G) (cI cZ : ClassId) (a : Nat → Nat) (sz : Nat) (am : Int32) (rt : Int32) : Met l yX3_discountOf wsX3_discountOf ({ frames := 0, cells := 0, slots := 0, locals := 0 } : Room) (va_Pc [.int (am), .int (rt)] (PreW D cI cZ ([] : va_W) sz)) (va_Qi (fun (r : Int32) (u : Unit) => r = dcO am rt) (fun (u : Unit) => PostW D cI cZ (va_A ([] : va_W) sz) ([] : va_W)) (va_A ([] : va_W) sz)) 0 0 (va_A ([] : va_W) sz) := by
  refine Met.ofW (cc := cX3_discountOf) (maxL := 2) (ret := (some .int)) (by decide) rfl ?_
  intro p e s m args below meth c s₁ BB hml hv
  obtain ⟨rfl, hsz, hP, hK, hD0⟩ := hv
  have hx := BB.exec
  have hb := BB.bytes
  have hr := BB.returns
  have hts := atoms_spec (ws := wsX3_discountOf) BB.pre
  have hown : s.vm.findClass RX3 = some m.cls := findClass_of_methodNamed BB.named
  have hlocks := BB.notSynchronized
  clear BB
  subst hsz
  have hD := hD0.self (sz := s.heap.size)
  clear hD0
  generalize hAe : va_A ([] : va_W) s.heap.size = A at hD ⊢
  have hA : ∀ q : Nat, s.heap.size ≤ q → A q := fun q h => by rw [← hAe]; exact Or.inr h
  clear hAe
  have hS : va_S A s.heap s.heap [] := va_S.rf
  have hl := lv_entry ([.int (am), .int (rt)]) (n := 2) (Nat.le_of_ble_eq_true rfl)
  rw [lg_entry_eq]
  generalize (lg_sl ([.int (am), .int (rt)]) ++ List.replicate (2 - (lg_sl ([.int (am), .int (rt)])).length) Slot.unset).toArray = ls at hl ⊢
  have hl : lv_has ls 2 [(0, .int (am)), (1, .int (rt))] := hl
  generalize hHe : s.heap = H at hP
  have hS : va_S A s.heap H [] := by rw [← hHe]; exact va_S.rf
  clear hHe
  generalize hLe : ([] : List Loc) = locs at hS ⊢
  clear hLe
  refine lv_iload_n hx hb dX3_discountOf_0 rfl (lv_at hl 0 rfl) ?_
  refine lv_i2l (v := (am).toInt64) hx hb dX3_discountOf_1 rfl ?_
  refine lv_iload_n hx hb dX3_discountOf_2 rfl (lv_at hl 1 rfl) ?_
  refine lv_i2l (v := (rt).toInt64) hx hb dX3_discountOf_3 rfl ?_
  refine lv_lmul hx hb dX3_discountOf_4 ?_
  refine lv_ldc2 (v := 10000) hx hb hown (hts (.constantLong RX3 225 (10000)) (by decide +kernel)) dX3_discountOf_5 ?_
  refine lv_ldiv hx hb dX3_discountOf_8 (by decide) ?_
  refine lv_l2i (v := ((((am).toInt64) * ((rt).toInt64)) / (10000)).toInt32) hx hb dX3_discountOf_9 rfl ?_
  exact W.iret (v := ((((am).toInt64) * ((rt).toInt64)) / (10000)).toInt32) hx hb hr (fun t ht hW => ⟨⟨((((am).toInt64) * ((rt).toInt64)) / (10000)).toInt32, (), rfl, rfl, by rw [ht]; exact hP, va_K.moved hW.alike hK, hD⟩, hS.F ht⟩) hS.2.2 dX3_discountOf_10
set_option maxHeartbeats 4000000 in
set_option maxRecDepth 100000 in
theorem c_X3_payBill (l : Launch) (D : va_G) (cI cZ : ClassId) (a : Nat → Nat) (sz : Nat) (B : Nat → Nat → Int32) (R : Nat → Nat → Int32) (E : Nat → Nat → Int32) (td : Int32) (rc : Nat) (b : Nat) (hrc : rc < 30) (hbl : b < 40) : Met l yX3_payBill wsX3_payBill ({ frames := 3, cells := 0, slots := 0, locals := 66 } : Room) (va_Pc [.ref (a 0), .int (nI (rc)), .int (nI (b))] (PreW D cI cZ (wCA a cI cZ B R E (td)) sz)) (va_Qi (fun (r : Int32) (u : (Nat → Nat → Int32) × (Nat → Nat → Int32)) => r = b2 (¬ R 3 rc < dueN B b td) ∧ u = (payB B R rc b td, payR B R rc b td)) (fun (u : (Nat → Nat → Int32) × (Nat → Nat → Int32)) => PostW D cI cZ (va_A (wCA a cI cZ B R E (td)) sz) (wCA a cI cZ (u.1) (u.2) E (td))) (va_A (wCA a cI cZ B R E (td)) sz)) 0 0 (va_A (wCA a cI cZ B R E (td)) sz) := by
  refine Met.ofW (cc := cX3_payBill) (maxL := 7) (ret := (some .boolean)) (by decide) rfl ?_
  intro p e s m args below meth c s₁ BB hml hv
  obtain ⟨rfl, hsz, hP, hK, hD0⟩ := hv
  have hx := BB.exec
  have hb := BB.bytes
  have hr := BB.returns
  have hts := atoms_spec (ws := wsX3_payBill) BB.pre
  have hown : s.vm.findClass RX3 = some m.cls := findClass_of_methodNamed BB.named
  have hlocks := BB.notSynchronized
  clear BB
  subst hsz
  have hD := hD0.self (sz := s.heap.size)
  clear hD0
  generalize hAe : va_A (wCA a cI cZ B R E (td)) s.heap.size = A at hD ⊢
  have hA : ∀ q : Nat, s.heap.size ≤ q → A q := fun q h => by rw [← hAe]; exact Or.inr h
  clear hAe
  have hS : va_S A s.heap s.heap [] := va_S.rf
  have hl := lv_entry ([.ref (a 0), .int (nI (rc)), .int (nI (b))]) (n := 7) (Nat.le_of_ble_eq_true rfl)
  rw [lg_entry_eq]
  generalize (lg_sl ([.ref (a 0), .int (nI (rc)), .int (nI (b))]) ++ List.replicate (7 - (lg_sl ([.ref (a 0), .int (nI (rc)), .int (nI (b))])).length) Slot.unset).toArray = ls at hl ⊢
  have hl : lv_has ls 7 [(0, .ref (a 0)), (1, .int (nI (rc))), (2, .int (nI (b)))] := hl
  generalize hHe : s.heap = H at hP
  have hS : va_S A s.heap H [] := by rw [← hHe]; exact va_S.rf
  clear hHe
  generalize hLe : ([] : List Loc) = locs at hS ⊢
  clear hLe
  refine lv_aload_n hx hb dX3_payBill_0 rfl (lv_at hl 0 rfl) ?_
  refine va_get (D := D) (ci := 3) (v := .ref (a 1)) (C := RX3) (T := TX3) (N := 4) hx hb hts (fun w h => List.mem_cons_of_mem _ (List.mem_append_left _ (List.mem_append_left _ (List.mem_append_right _ h)))) hown hK hP 0 rfl rfl 0 (by decide) (hts (.fieldLink RX3 10 "CashAllocator" "billBook" "LCashAllocator$BillBook;") (by decide +kernel)) (fun _ h9 => h9) rfl dX3_payBill_1 ?_
  refine lv_iload_n hx hb dX3_payBill_4 rfl (lv_at hl 2 rfl) ?_
  refine lv_aload_n hx hb dX3_payBill_5 rfl (lv_at hl 0 rfl) ?_
  refine va_get (D := D) (ci := 3) (v := .int (td)) (C := RX3) (T := TX3) (N := 4) hx hb hts (fun w h => List.mem_cons_of_mem _ (List.mem_append_left _ (List.mem_append_left _ (List.mem_append_right _ h)))) hown hK hP 0 rfl rfl 3 (by decide) (hts (.fieldLink RX3 30 "CashAllocator" "today" "I") (by decide +kernel)) (fun _ h9 => h9) rfl dX3_payBill_6 ?_
  refine zcVi (ci := 0) (q0 := 0) (wf := (fun (u : Unit) => (wCA a cI cZ B R E (td)))) ksBB ⟨hx, hb, hml, hown, hts⟩ (zwBB hP hD hS hA) hK (c_X0_dueOn l D cI cZ a H.size (B) (b) (td) (by first | assumption | omega)) (cwV 2 hts gX3_payBill_X0_dueOn rfl rfl rfl (by decide +kernel) ⟨Nat.le_of_ble_eq_true rfl, Nat.le_of_ble_eq_true rfl⟩) rfl rfl (by decide) (fun _ => zkBB _) rfl hl.1 rfl (Nat.le_of_ble_eq_true rfl) dX3_payBill_9 ⟨Nat.le_of_ble_eq_true rfl, Nat.le_of_ble_eq_true rfl⟩ (fun r9 u H locs hw hP hD hS => ?_)
  subst hw
  refine lv_istore_n (lv' := [(3, .int (dueN (B) (b) (td))), (0, .ref (a 0)), (1, .int (nI (rc))), (2, .int (nI (b)))]) hx hb dX3_payBill_12 rfl hl (by decide) rfl (fun ls hl => ?_)
  refine lv_aload_n hx hb dX3_payBill_13 rfl (lv_at hl 1 rfl) ?_
  refine va_get (D := D) (ci := 3) (v := .ref (a 13)) (C := RX3) (T := TX3) (N := 4) hx hb hts (fun w h => List.mem_cons_of_mem _ (List.mem_append_left _ (List.mem_append_left _ (List.mem_append_right _ h)))) hown hK hP 0 rfl rfl 1 (by decide) (hts (.fieldLink RX3 19 "CashAllocator" "receiptBook" "LCashAllocator$ReceiptBook;") (by decide +kernel)) (fun _ h9 => h9) rfl dX3_payBill_14 ?_
  refine va_get (D := D) (ci := 2) (v := .ref (a 17)) (C := RX2) (T := TX2) (N := 9) hx hb hts (fun w h => List.mem_cons_of_mem _ (List.mem_append_left _ (List.mem_append_right _ h))) hown hK hP 13 rfl rfl 3 (by decide) (hts (.fieldLink RX3 85 "CashAllocator$ReceiptBook" "unapplied" "[I") (by decide +kernel)) (fun _ h9 => h9) rfl dX3_payBill_17 ?_
  refine lv_iload_n hx hb dX3_payBill_20 rfl (lv_at hl 2 rfl) ?_
  refine zald hx hb hK hP 17 (n := 30) (f := (R 3)) rfl (rc) rfl (by omega) (by decide) dX3_payBill_21 ?_
  refine lv_istore (lv' := [(4, .int (R 3 (rc))), (3, .int (dueN (B) (b) (td))), (0, .ref (a 0)), (1, .int (nI (rc))), (2, .int (nI (b)))]) hx hb dX3_payBill_22 hl (by decide) rfl (fun ls hl => ?_)
  refine lv_iload hx hb dX3_payBill_24 (lv_at hl 0 rfl) ?_
  refine lv_iload_n hx hb dX3_payBill_26 rfl (lv_at hl 1 rfl) ?_
  refine lv_icmp_lt (tgt := 34) hx hb dX3_payBill_27 (by decide) (fun c27 => ?_) (fun c27 => ?_)
  · -- 27 taken
    refine lv_iconst (v := 0) hx hb dX3_payBill_34 (by decide) ?_
    refine lv_istore (lv' := [(5, .int (0)), (4, .int (R 3 (rc))), (3, .int (dueN (B) (b) (td))), (0, .ref (a 0)), (1, .int (nI (rc))), (2, .int (nI (b)))]) hx hb dX3_payBill_35 hl (by decide) rfl (fun ls hl => ?_)
    refine lv_iload hx hb dX3_payBill_37 (lv_at hl 0 rfl) ?_
    refine lv_if_eq (tgt := 55) hx hb dX3_payBill_39 (by decide) (fun c39 => ?_) (fun c39 => ?_)
    · -- 39 taken
      refine lv_iload hx hb dX3_payBill_55 (lv_at hl 0 rfl) ?_
      refine lv_if_eq (tgt := 64) hx hb dX3_payBill_57 (by decide) (fun c57 => ?_) (fun c57 => ?_)
      · -- 57 taken
        refine lv_iload hx hb dX3_payBill_64 (lv_at hl 1 rfl) ?_
        refine lv_istore (lv' := [(6, .int (R 3 (rc))), (5, .int (0)), (4, .int (R 3 (rc))), (3, .int (dueN (B) (b) (td))), (0, .ref (a 0)), (1, .int (nI (rc))), (2, .int (nI (b)))]) hx hb dX3_payBill_66 hl (by decide) rfl (fun ls hl => ?_)
        refine lv_aload_n hx hb dX3_payBill_68 rfl (lv_at hl 4 rfl) ?_
        refine va_get (D := D) (ci := 3) (v := .ref (a 1)) (C := RX3) (T := TX3) (N := 4) hx hb hts (fun w h => List.mem_cons_of_mem _ (List.mem_append_left _ (List.mem_append_left _ (List.mem_append_right _ h)))) hown hK hP 0 rfl rfl 0 (by decide) (hts (.fieldLink RX3 10 "CashAllocator" "billBook" "LCashAllocator$BillBook;") (by decide +kernel)) (fun _ h9 => h9) rfl dX3_payBill_69 ?_
        refine va_get (D := D) (ci := 0) (v := .ref (a 7)) (C := RX0) (T := TX0) (N := 12) hx hb hts (fun w h => List.mem_cons_of_mem _ (List.mem_append_right _ h)) hown hK hP 1 rfl rfl 5 (by decide) (hts (.fieldLink RX3 135 "CashAllocator$BillBook" "paid" "[I") (by decide +kernel)) (fun _ h9 => h9) rfl dX3_payBill_72 ?_
        refine lv_iload_n hx hb dX3_payBill_75 rfl (lv_at hl 6 rfl) ?_
        refine lv_dup2_11 hx hb dX3_payBill_76 rfl rfl ?_
        refine zald hx hb hK hP 7 (n := 40) (f := (B 5)) rfl (b) rfl (by omega) (by decide) dX3_payBill_77 ?_
        refine lv_iload hx hb dX3_payBill_78 (lv_at hl 0 rfl) ?_
        refine lv_iadd hx hb dX3_payBill_80 ?_
        refine zast hx hb hK hP hD hS 7 (n := 40) (f := (B 5)) rfl (b) rfl (by omega) (by decide) (wCA a cI cZ (pt B 5 (b) ((B 5 (b)) + (R 3 (rc)))) R E (td)) rfl dX3_payBill_81 (fun H locs hP hD hS => ?_)
        refine lv_aload_n hx hb dX3_payBill_82 rfl (lv_at hl 4 rfl) ?_
        refine va_get (D := D) (ci := 3) (v := .ref (a 13)) (C := RX3) (T := TX3) (N := 4) hx hb hts (fun w h => List.mem_cons_of_mem _ (List.mem_append_left _ (List.mem_append_left _ (List.mem_append_right _ h)))) hown hK hP 0 rfl rfl 1 (by decide) (hts (.fieldLink RX3 19 "CashAllocator" "receiptBook" "LCashAllocator$ReceiptBook;") (by decide +kernel)) (fun _ h9 => h9) rfl dX3_payBill_83 ?_
        refine lv_iload_n hx hb dX3_payBill_86 rfl (lv_at hl 5 rfl) ?_
        refine lv_iload_n hx hb dX3_payBill_87 rfl (lv_at hl 6 rfl) ?_
        refine lv_iload hx hb dX3_payBill_88 (lv_at hl 0 rfl) ?_
        refine zcVv (ci := 2) (q0 := 0) (wf := (fun (u : Nat → Nat → Int32) => (wCA a cI cZ (pt B 5 (b) ((B 5 (b)) + (R 3 (rc)))) u E (td)))) ksRB ⟨hx, hb, hml, hown, hts⟩ (zwRB hP hD hS hA) hK (c_X2_addPayment l D cI cZ a H.size (R) (rc) (b) (R 3 (rc)) (by first | assumption | omega) (by first | assumption | omega)) (cwV 3 hts gX3_payBill_X2_addPayment rfl rfl rfl (by decide +kernel) ⟨Nat.le_of_ble_eq_true rfl, Nat.le_of_ble_eq_true rfl⟩) rfl rfl (by decide) (fun _ => zkRB _) rfl hl.1 rfl (Nat.le_of_ble_eq_true rfl) dX3_payBill_90 ⟨Nat.le_of_ble_eq_true rfl, Nat.le_of_ble_eq_true rfl⟩ (fun u H locs hw hP hD hS => ?_)
        subst hw
        have hP : va_P D vwCl (wCA a cI cZ (pt B 5 (b) ((B 5 (b)) + (R 3 (rc)))) (addP (R) (rc) (b) (R 3 (rc))) E (td)) H := hP
        have hD : va_D A (wCA a cI cZ (pt B 5 (b) ((B 5 (b)) + (R 3 (rc)))) (addP (R) (rc) (b) (R 3 (rc))) E (td)) := hD
        refine lv_iload hx hb dX3_payBill_93 (lv_at hl 1 rfl) ?_
        exact W.zret (ty := .boolean) (v := 0) hx hb hr (by decide) (fun t ht hW => ⟨⟨0, ((pt B 5 (b) ((B 5 (b)) + (R 3 (rc)))), (addP (R) (rc) (b) (R 3 (rc)))), rfl, ⟨by simp [b2, c27], by unfold payB payR payS; first | (rw [if_pos c27, if_pos c27]; done) | (rw [if_neg c27, if_neg c27]; done)⟩, by rw [ht]; exact hP, va_K.moved hW.alike hK, hD⟩, hS.F ht⟩) hS.2.2 dX3_payBill_95
      · -- 57 on
        exact absurd c57 (by decide)
    · -- 39 on
      exact absurd c39 (by decide)
  · -- 27 on
    refine lv_iconst (v := 1) hx hb dX3_payBill_30 (by decide) ?_
    refine lv_goto (tgt := 35) hx hb dX3_payBill_31 (by decide) ?_
    refine lv_istore (lv' := [(5, .int (1)), (4, .int (R 3 (rc))), (3, .int (dueN (B) (b) (td))), (0, .ref (a 0)), (1, .int (nI (rc))), (2, .int (nI (b)))]) hx hb dX3_payBill_35 hl (by decide) rfl (fun ls hl => ?_)
    refine lv_iload hx hb dX3_payBill_37 (lv_at hl 0 rfl) ?_
    refine lv_if_eq (tgt := 55) hx hb dX3_payBill_39 (by decide) (fun c39 => ?_) (fun c39 => ?_)
    · -- 39 taken
      exact absurd c39 (by decide)
    · -- 39 on
      refine lv_aload_n hx hb dX3_payBill_42 rfl (lv_at hl 3 rfl) ?_
      refine va_get (D := D) (ci := 3) (v := .ref (a 1)) (C := RX3) (T := TX3) (N := 4) hx hb hts (fun w h => List.mem_cons_of_mem _ (List.mem_append_left _ (List.mem_append_left _ (List.mem_append_right _ h)))) hown hK hP 0 rfl rfl 0 (by decide) (hts (.fieldLink RX3 10 "CashAllocator" "billBook" "LCashAllocator$BillBook;") (by decide +kernel)) (fun _ h9 => h9) rfl dX3_payBill_43 ?_
      refine lv_iload_n hx hb dX3_payBill_46 rfl (lv_at hl 5 rfl) ?_
      refine lv_iload_n hx hb dX3_payBill_47 rfl (lv_at hl 4 rfl) ?_
      refine lv_aload_n hx hb dX3_payBill_48 rfl (lv_at hl 3 rfl) ?_
      refine va_get (D := D) (ci := 3) (v := .int (td)) (C := RX3) (T := TX3) (N := 4) hx hb hts (fun w h => List.mem_cons_of_mem _ (List.mem_append_left _ (List.mem_append_left _ (List.mem_append_right _ h)))) hown hK hP 0 rfl rfl 3 (by decide) (hts (.fieldLink RX3 30 "CashAllocator" "today" "I") (by decide +kernel)) (fun _ h9 => h9) rfl dX3_payBill_49 ?_
      refine zcVv (ci := 0) (q0 := 0) (wf := (fun (u : Nat → Nat → Int32) => (wCA a cI cZ u R E (td)))) ksBB ⟨hx, hb, hml, hown, hts⟩ (zwBB hP hD hS hA) hK (c_X0_takeDiscount l D cI cZ a H.size (B) (b) (nI (rc)) (td) (by first | assumption | omega)) (cwV 3 hts gX3_payBill_X0_takeDiscount rfl rfl rfl (by decide +kernel) ⟨Nat.le_of_ble_eq_true rfl, Nat.le_of_ble_eq_true rfl⟩) rfl rfl (by decide) (fun _ => zkBB _) rfl hl.1 rfl (Nat.le_of_ble_eq_true rfl) dX3_payBill_52 ⟨Nat.le_of_ble_eq_true rfl, Nat.le_of_ble_eq_true rfl⟩ (fun u H locs hw hP hD hS => ?_)
      subst hw
      have hP : va_P D vwCl (wCA a cI cZ (tkD (B) (b) (nI (rc)) (td)) R E (td)) H := hP
      have hD : va_D A (wCA a cI cZ (tkD (B) (b) (nI (rc)) (td)) R E (td)) := hD
      refine lv_iload hx hb dX3_payBill_55 (lv_at hl 0 rfl) ?_
      refine lv_if_eq (tgt := 64) hx hb dX3_payBill_57 (by decide) (fun c57 => ?_) (fun c57 => ?_)
      · -- 57 taken
        exact absurd c57 (by decide)
      · -- 57 on
        refine lv_iload_n hx hb dX3_payBill_60 rfl (lv_at hl 2 rfl) ?_
        refine lv_goto (tgt := 66) hx hb dX3_payBill_61 (by decide) ?_
        refine lv_istore (lv' := [(6, .int (dueN (B) (b) (td))), (5, .int (1)), (4, .int (R 3 (rc))), (3, .int (dueN (B) (b) (td))), (0, .ref (a 0)), (1, .int (nI (rc))), (2, .int (nI (b)))]) hx hb dX3_payBill_66 hl (by decide) rfl (fun ls hl => ?_)
        refine lv_aload_n hx hb dX3_payBill_68 rfl (lv_at hl 4 rfl) ?_
        refine va_get (D := D) (ci := 3) (v := .ref (a 1)) (C := RX3) (T := TX3) (N := 4) hx hb hts (fun w h => List.mem_cons_of_mem _ (List.mem_append_left _ (List.mem_append_left _ (List.mem_append_right _ h)))) hown hK hP 0 rfl rfl 0 (by decide) (hts (.fieldLink RX3 10 "CashAllocator" "billBook" "LCashAllocator$BillBook;") (by decide +kernel)) (fun _ h9 => h9) rfl dX3_payBill_69 ?_
        refine va_get (D := D) (ci := 0) (v := .ref (a 7)) (C := RX0) (T := TX0) (N := 12) hx hb hts (fun w h => List.mem_cons_of_mem _ (List.mem_append_right _ h)) hown hK hP 1 rfl rfl 5 (by decide) (hts (.fieldLink RX3 135 "CashAllocator$BillBook" "paid" "[I") (by decide +kernel)) (fun _ h9 => h9) rfl dX3_payBill_72 ?_
        refine lv_iload_n hx hb dX3_payBill_75 rfl (lv_at hl 6 rfl) ?_
        refine lv_dup2_11 hx hb dX3_payBill_76 rfl rfl ?_
        refine zald hx hb hK hP 7 (n := 40) (f := ((tkD (B) (b) (nI (rc)) (td)) 5)) rfl (b) rfl (by omega) (by decide) dX3_payBill_77 ?_
        refine lv_iload hx hb dX3_payBill_78 (lv_at hl 0 rfl) ?_
        refine lv_iadd hx hb dX3_payBill_80 ?_
        refine zast hx hb hK hP hD hS 7 (n := 40) (f := ((tkD (B) (b) (nI (rc)) (td)) 5)) rfl (b) rfl (by omega) (by decide) (wCA a cI cZ (pt (tkD (B) (b) (nI (rc)) (td)) 5 (b) (((tkD (B) (b) (nI (rc)) (td)) 5 (b)) + (dueN (B) (b) (td)))) R E (td)) rfl dX3_payBill_81 (fun H locs hP hD hS => ?_)
        refine lv_aload_n hx hb dX3_payBill_82 rfl (lv_at hl 4 rfl) ?_
        refine va_get (D := D) (ci := 3) (v := .ref (a 13)) (C := RX3) (T := TX3) (N := 4) hx hb hts (fun w h => List.mem_cons_of_mem _ (List.mem_append_left _ (List.mem_append_left _ (List.mem_append_right _ h)))) hown hK hP 0 rfl rfl 1 (by decide) (hts (.fieldLink RX3 19 "CashAllocator" "receiptBook" "LCashAllocator$ReceiptBook;") (by decide +kernel)) (fun _ h9 => h9) rfl dX3_payBill_83 ?_
        refine lv_iload_n hx hb dX3_payBill_86 rfl (lv_at hl 5 rfl) ?_
        refine lv_iload_n hx hb dX3_payBill_87 rfl (lv_at hl 6 rfl) ?_
        refine lv_iload hx hb dX3_payBill_88 (lv_at hl 0 rfl) ?_
        refine zcVv (ci := 2) (q0 := 0) (wf := (fun (u : Nat → Nat → Int32) => (wCA a cI cZ (pt (tkD (B) (b) (nI (rc)) (td)) 5 (b) (((tkD (B) (b) (nI (rc)) (td)) 5 (b)) + (dueN (B) (b) (td)))) u E (td)))) ksRB ⟨hx, hb, hml, hown, hts⟩ (zwRB hP hD hS hA) hK (c_X2_addPayment l D cI cZ a H.size (R) (rc) (b) (dueN (B) (b) (td)) (by first | assumption | omega) (by first | assumption | omega)) (cwV 3 hts gX3_payBill_X2_addPayment rfl rfl rfl (by decide +kernel) ⟨Nat.le_of_ble_eq_true rfl, Nat.le_of_ble_eq_true rfl⟩) rfl rfl (by decide) (fun _ => zkRB _) rfl hl.1 rfl (Nat.le_of_ble_eq_true rfl) dX3_payBill_90 ⟨Nat.le_of_ble_eq_true rfl, Nat.le_of_ble_eq_true rfl⟩ (fun u H locs hw hP hD hS => ?_)
        subst hw
        have hP : va_P D vwCl (wCA a cI cZ (pt (tkD (B) (b) (nI (rc)) (td)) 5 (b) (((tkD (B) (b) (nI (rc)) (td)) 5 (b)) + (dueN (B) (b) (td)))) (addP (R) (rc) (b) (dueN (B) (b) (td))) E (td)) H := hP
        have hD : va_D A (wCA a cI cZ (pt (tkD (B) (b) (nI (rc)) (td)) 5 (b) (((tkD (B) (b) (nI (rc)) (td)) 5 (b)) + (dueN (B) (b) (td)))) (addP (R) (rc) (b) (dueN (B) (b) (td))) E (td)) := hD
        refine lv_iload hx hb dX3_payBill_93 (lv_at hl 1 rfl) ?_
        exact W.zret (ty := .boolean) (v := 1) hx hb hr (by decide) (fun t ht hW => ⟨⟨1, ((pt (tkD (B) (b) (nI (rc)) (td)) 5 (b) (((tkD (B) (b) (nI (rc)) (td)) 5 (b)) + (dueN (B) (b) (td)))), (addP (R) (rc) (b) (dueN (B) (b) (td)))), rfl, ⟨by simp [b2, c27], by unfold payB payR payS; first | (rw [if_pos c27, if_pos c27]; done) | (rw [if_neg c27, if_neg c27]; done)⟩, by rw [ht]; exact hP, va_K.moved hW.alike hK, hD⟩, hS.F ht⟩) hS.2.2 dX3_payBill_95
set_option maxHeartbeats 4000000 in
set_option maxRecDepth 100000 in
theorem c_X3_payOldestBills (l : Launch) (D : va_G) (cI cZ : ClassId) (a : Nat → Nat) (sz : Nat) (B : Nat → Nat → Int32) (R : Nat → Nat → Int32) (E : Nat → Nat → Int32) (td : Int32) (rc : Nat) (n : Nat) (hrc : rc < 30) (hB : B 11 0 = nI n) (hn : n ≤ 40) : Met l yX3_payOldestBills wsX3_payOldestBills ({ frames := 4, cells := 0, slots := 0, locals := 92 } : Room) (va_Pc [.ref (a 0), .int (nI (rc))] (PreW D cI cZ (wCA a cI cZ B R E (td)) sz)) (va_Qv (fun (u : (Nat → Nat → Int32) × (Nat → Nat → Int32)) => u = oldL rc (R 0 rc) td n 0 B R) (fun (u : (Nat → Nat → Int32) × (Nat → Nat → Int32)) => PostW D cI cZ (va_A (wCA a cI cZ B R E (td)) sz) (wCA a cI cZ (u.1) (u.2) E (td))) (va_A (wCA a cI cZ B R E (td)) sz)) 0 0 (va_A (wCA a cI cZ B R E (td)) sz) := by
  refine Met.ofW (cc := cX3_payOldestBills) (maxL := 4) (ret := none) (by decide) rfl ?_
  intro p e s m args below meth c s₁ BB hml hv
  obtain ⟨rfl, hsz, hP, hK, hD0⟩ := hv
  have hx := BB.exec
  have hb := BB.bytes
  have hr := BB.returns
  have hts := atoms_spec (ws := wsX3_payOldestBills) BB.pre
  have hown : s.vm.findClass RX3 = some m.cls := findClass_of_methodNamed BB.named
  have hlocks := BB.notSynchronized
  clear BB
  subst hsz
  have hD := hD0.self (sz := s.heap.size)
  clear hD0
  generalize hAe : va_A (wCA a cI cZ B R E (td)) s.heap.size = A at hD ⊢
  have hA : ∀ q : Nat, s.heap.size ≤ q → A q := fun q h => by rw [← hAe]; exact Or.inr h
  clear hAe
  have hS : va_S A s.heap s.heap [] := va_S.rf
  have hl := lv_entry ([.ref (a 0), .int (nI (rc))]) (n := 4) (Nat.le_of_ble_eq_true rfl)
  rw [lg_entry_eq]
  generalize (lg_sl ([.ref (a 0), .int (nI (rc))]) ++ List.replicate (4 - (lg_sl ([.ref (a 0), .int (nI (rc))])).length) Slot.unset).toArray = ls at hl ⊢
  have hl : lv_has ls 4 [(0, .ref (a 0)), (1, .int (nI (rc)))] := hl
  generalize hHe : s.heap = H at hP
  have hS : va_S A s.heap H [] := by rw [← hHe]; exact va_S.rf
  clear hHe
  generalize hLe : ([] : List Loc) = locs at hS ⊢
  clear hLe
  refine lv_aload_n hx hb dX3_payOldestBills_0 rfl (lv_at hl 0 rfl) ?_
  refine va_get (D := D) (ci := 3) (v := .ref (a 13)) (C := RX3) (T := TX3) (N := 4) hx hb hts (fun w h => List.mem_cons_of_mem _ (List.mem_append_left _ (List.mem_append_left _ (List.mem_append_right _ h)))) hown hK hP 0 rfl rfl 1 (by decide) (hts (.fieldLink RX3 19 "CashAllocator" "receiptBook" "LCashAllocator$ReceiptBook;") (by decide +kernel)) (fun _ h9 => h9) rfl dX3_payOldestBills_1 ?_
  refine va_get (D := D) (ci := 2) (v := .ref (a 14)) (C := RX2) (T := TX2) (N := 9) hx hb hts (fun w h => List.mem_cons_of_mem _ (List.mem_append_left _ (List.mem_append_right _ h))) hown hK hP 13 rfl rfl 0 (by decide) (hts (.fieldLink RX3 79 "CashAllocator$ReceiptBook" "customer" "[I") (by decide +kernel)) (fun _ h9 => h9) rfl dX3_payOldestBills_4 ?_
  refine lv_iload_n hx hb dX3_payOldestBills_7 rfl (lv_at hl 1 rfl) ?_
  refine zald hx hb hK hP 14 (n := 30) (f := (R 0)) rfl (rc) rfl (by omega) (by decide) dX3_payOldestBills_8 ?_
  refine lv_istore_n (lv' := [(2, .int (R 0 (rc))), (0, .ref (a 0)), (1, .int (nI (rc)))]) hx hb dX3_payOldestBills_9 rfl hl (by decide) rfl (fun ls hl => ?_)
  refine lv_iconst (v := nI (0)) hx hb dX3_payOldestBills_10 (by decide) ?_
  refine lv_istore_n (lv' := [(3, .int (nI (0))), (2, .int (R 0 (rc))), (0, .ref (a 0)), (1, .int (nI (rc)))]) hx hb dX3_payOldestBills_11 rfl hl (by decide) rfl (fun ls hl => ?_)
  have loop12 : ∀ (fu : Nat) (i : Nat) (Bi : Nat → Nat → Int32) (Ri : Nat → Nat → Int32) (hin : i ≤ n) (hBi : Bi 11 0 = nI n) (hg : oldL rc (R 0 rc) td n 0 B R = oldL rc (R 0 rc) td (n - i) i Bi Ri) (hfu : n - i < fu) (H : Heap) (locs : List Loc) (hP : va_P D vwCl (wCA a cI cZ Bi Ri E (td)) H) (hD : va_D A (wCA a cI cZ Bi Ri E (td))) (hS : va_S A s.heap H locs) (ls : Array Slot) (hl : lv_has ls 4 [(3, .int (nI (i))), (2, .int (R 0 (rc))), (0, .ref (a 0)), (1, .int (nI (rc)))]), W p l e (headSpec wsX3_payOldestBills ({ frames := 4, cells := 0, slots := 0, locals := 92 } : Room)).room s m ([.ref (a 0), .int (nI (rc))] : List Value).toArray below meth c H locs 0 0 (MQ below (va_Qv (fun (u : (Nat → Nat → Int32) × (Nat → Nat → Int32)) => u = oldL rc (R 0 rc) td n 0 B R) (fun (u : (Nat → Nat → Int32) × (Nat → Nat → Int32)) => PostW D cI cZ A (wCA a cI cZ (u.1) (u.2) E (td))) A) ([.ref (a 0), .int (nI (rc))] : List Value).toArray s 0 0 A) (F0 m 12 ls []) := by
    clear hP hD hS hl
    intro fu12
    induction fu12 with
    | zero => intro i Bi Ri hin hBi hg hfu; exact absurd hfu (Nat.not_lt_zero _)
    | succ fu12 ih12 =>
      intro i Bi Ri hin hBi hg hfu H locs hP hD hS ls hl
      refine lv_iload_n hx hb dX3_payOldestBills_12 rfl (lv_at hl 0 rfl) ?_
      refine lv_aload_n hx hb dX3_payOldestBills_13 rfl (lv_at hl 2 rfl) ?_
      refine va_get (D := D) (ci := 3) (v := .ref (a 1)) (C := RX3) (T := TX3) (N := 4) hx hb hts (fun w h => List.mem_cons_of_mem _ (List.mem_append_left _ (List.mem_append_left _ (List.mem_append_right _ h)))) hown hK hP 0 rfl rfl 0 (by decide) (hts (.fieldLink RX3 10 "CashAllocator" "billBook" "LCashAllocator$BillBook;") (by decide +kernel)) (fun _ h9 => h9) rfl dX3_payOldestBills_14 ?_
      refine va_get (D := D) (ci := 0) (v := .int (nI (n))) (C := RX0) (T := TX0) (N := 12) hx hb hts (fun w h => List.mem_cons_of_mem _ (List.mem_append_right _ h)) hown hK hP 1 rfl rfl 11 (by decide) (hts (.fieldLink RX3 43 "CashAllocator$BillBook" "count" "I") (by decide +kernel)) (fun _ h9 => h9) (congrArg (fun z => some (Value.int z)) hBi) dX3_payOldestBills_17 ?_
      refine lv_icmp_ge (tgt := 60) hx hb dX3_payOldestBills_20 (by decide) (fun c20 => ?_) (fun c20 => ?_)
      · -- 20 taken
        rw [nI_leI (by omega) (by omega)] at c20
        have hfin : (Bi, Ri) = oldL rc (R 0 rc) td n 0 B R := by rw [hg, show n - i = 0 by omega]; rfl
        exact W.vret hx hb hr (fun t ht hW => ⟨⟨(Bi, Ri), rfl, hfin, by rw [ht]; exact hP, va_K.moved hW.alike hK, hD⟩, hS.F ht⟩) hS.2.2 dX3_payOldestBills_60
      · -- 20 on
        rw [nI_leI (by omega) (by omega)] at c20
        have c20 : i < n := by omega
        have hk : n - i = (n - (i + 1)) + 1 := by omega
        rw [hk] at hg
        refine lv_aload_n hx hb dX3_payOldestBills_23 rfl (lv_at hl 2 rfl) ?_
        refine va_get (D := D) (ci := 3) (v := .ref (a 13)) (C := RX3) (T := TX3) (N := 4) hx hb hts (fun w h => List.mem_cons_of_mem _ (List.mem_append_left _ (List.mem_append_left _ (List.mem_append_right _ h)))) hown hK hP 0 rfl rfl 1 (by decide) (hts (.fieldLink RX3 19 "CashAllocator" "receiptBook" "LCashAllocator$ReceiptBook;") (by decide +kernel)) (fun _ h9 => h9) rfl dX3_payOldestBills_24 ?_
        refine va_get (D := D) (ci := 2) (v := .ref (a 17)) (C := RX2) (T := TX2) (N := 9) hx hb hts (fun w h => List.mem_cons_of_mem _ (List.mem_append_left _ (List.mem_append_right _ h))) hown hK hP 13 rfl rfl 3 (by decide) (hts (.fieldLink RX3 85 "CashAllocator$ReceiptBook" "unapplied" "[I") (by decide +kernel)) (fun _ h9 => h9) rfl dX3_payOldestBills_27 ?_
        refine lv_iload_n hx hb dX3_payOldestBills_30 rfl (lv_at hl 3 rfl) ?_
        refine zald hx hb hK hP 17 (n := 30) (f := (Ri 3)) rfl (rc) rfl (by omega) (by decide) dX3_payOldestBills_31 ?_
        refine lv_if_le (tgt := 60) hx hb dX3_payOldestBills_32 (by decide) (fun c32 => ?_) (fun c32 => ?_)
        · -- 32 taken
          have hfin : (Bi, Ri) = oldL rc (R 0 rc) td n 0 B R := by rw [hg, oldL, if_pos c32]
          exact W.vret hx hb hr (fun t ht hW => ⟨⟨(Bi, Ri), rfl, hfin, by rw [ht]; exact hP, va_K.moved hW.alike hK, hD⟩, hS.F ht⟩) hS.2.2 dX3_payOldestBills_60
        · -- 32 on
          refine lv_aload_n hx hb dX3_payOldestBills_35 rfl (lv_at hl 2 rfl) ?_
          refine va_get (D := D) (ci := 3) (v := .ref (a 1)) (C := RX3) (T := TX3) (N := 4) hx hb hts (fun w h => List.mem_cons_of_mem _ (List.mem_append_left _ (List.mem_append_left _ (List.mem_append_right _ h)))) hown hK hP 0 rfl rfl 0 (by decide) (hts (.fieldLink RX3 10 "CashAllocator" "billBook" "LCashAllocator$BillBook;") (by decide +kernel)) (fun _ h9 => h9) rfl dX3_payOldestBills_36 ?_
          refine lv_iload_n hx hb dX3_payOldestBills_39 rfl (lv_at hl 0 rfl) ?_
          refine lv_iload_n hx hb dX3_payOldestBills_40 rfl (lv_at hl 1 rfl) ?_
          refine zcVi (ci := 0) (q0 := 0) (wf := (fun (u : Unit) => (wCA a cI cZ Bi Ri E (td)))) ksBB ⟨hx, hb, hml, hown, hts⟩ (zwBB hP hD hS hA) hK (c_X0_isOpenFor l D cI cZ a H.size (Bi) (i) (R 0 (rc)) (by first | assumption | omega)) (cwV 2 hts gX3_payOldestBills_X0_isOpenFor rfl rfl rfl (by decide +kernel) ⟨Nat.le_of_ble_eq_true rfl, Nat.le_of_ble_eq_true rfl⟩) rfl rfl (by decide) (fun _ => zkBB _) rfl hl.1 rfl (Nat.le_of_ble_eq_true rfl) dX3_payOldestBills_41 ⟨Nat.le_of_ble_eq_true rfl, Nat.le_of_ble_eq_true rfl⟩ (fun r41 u H locs hw hP hD hS => ?_)
          subst hw
          refine lv_if_eq (tgt := 54) hx hb dX3_payOldestBills_44 (by decide) (fun c44 => ?_) (fun c44 => ?_)
          · -- 44 taken
            have c44 := b2_0 c44
            have hg2 : oldL rc (R 0 rc) td n 0 B R = oldL rc (R 0 rc) td (n - (i + 1)) (i + 1) Bi Ri := by rw [hg, oldL, if_neg c32, if_neg c44]
            refine lv_iinc (v := nI (i + 1)) (lv' := [(3, .int (nI (i + 1))), (2, .int (R 0 (rc))), (0, .ref (a 0)), (1, .int (nI (rc)))]) hx hb dX3_payOldestBills_54 hl (k := 0) rfl (nI_1 _) (by decide) rfl (fun ls hl => ?_)
            refine lv_goto (tgt := 12) hx hb dX3_payOldestBills_57 (by decide) ?_
            exact ih12 (i + 1) (Bi) (Ri) (by omega) hBi hg2 (by omega) _ _ hP hD hS _ (lv_sub hl [0, 1, 2, 3] rfl)
          · -- 44 on
            have c44 := b2_1 c44
            have hg2 : oldL rc (R 0 rc) td n 0 B R = oldL rc (R 0 rc) td (n - (i + 1)) (i + 1) (payB Bi Ri rc i td) (payR Bi Ri rc i td) := by rw [hg, oldL, if_neg c32, if_pos c44]
            refine lv_aload_n hx hb dX3_payOldestBills_47 rfl (lv_at hl 2 rfl) ?_
            refine lv_iload_n hx hb dX3_payOldestBills_48 rfl (lv_at hl 3 rfl) ?_
            refine lv_iload_n hx hb dX3_payOldestBills_49 rfl (lv_at hl 0 rfl) ?_
            refine zcVi (ci := 3) (q0 := 0) (wf := (fun (u : (Nat → Nat → Int32) × (Nat → Nat → Int32)) => (wCA a cI cZ (u.1) (u.2) E (td)))) (List.range 26) ⟨hx, hb, hml, hown, hts⟩ (zwAll 26 (by decide) rfl hP hD hS hA) hK (c_X3_payBill l D cI cZ a H.size (Bi) (Ri) (E) (td) (rc) (i) (by first | assumption | omega) (by first | assumption | omega)) (cwV 2 hts gX3_payOldestBills_X3_payBill rfl rfl rfl (by decide +kernel) ⟨Nat.le_of_ble_eq_true rfl, Nat.le_of_ble_eq_true rfl⟩) rfl rfl (by decide) (fun _ => rfl) rfl hl.1 rfl (Nat.le_of_ble_eq_true rfl) dX3_payOldestBills_50 ⟨Nat.le_of_ble_eq_true rfl, Nat.le_of_ble_eq_true rfl⟩ (fun r50 u H locs hw hP hD hS => ?_)
            obtain ⟨rfl, rfl⟩ := hw
            have hP : va_P D vwCl (wCA a cI cZ (payB (Bi) (Ri) (rc) (i) (td)) (payR (Bi) (Ri) (rc) (i) (td)) E (td)) H := hP
            have hD : va_D A (wCA a cI cZ (payB (Bi) (Ri) (rc) (i) (td)) (payR (Bi) (Ri) (rc) (i) (td)) E (td)) := hD
            refine lv_pop hx hb dX3_payOldestBills_53 rfl ?_
            refine lv_iinc (v := nI (i + 1)) (lv' := [(3, .int (nI (i + 1))), (2, .int (R 0 (rc))), (0, .ref (a 0)), (1, .int (nI (rc)))]) hx hb dX3_payOldestBills_54 hl (k := 0) rfl (nI_1 _) (by decide) rfl (fun ls hl => ?_)
            refine lv_goto (tgt := 12) hx hb dX3_payOldestBills_57 (by decide) ?_
            exact ih12 (i + 1) ((payB (Bi) (Ri) (rc) (i) (td))) ((payR (Bi) (Ri) (rc) (i) (td))) (by omega) (by rw [payB_n]; exact hBi) hg2 (by omega) _ _ hP hD hS _ (lv_sub hl [0, 1, 2, 3] rfl)
  exact loop12 _ (0) (B) (R) (Nat.zero_le _) (hB) (rfl) (Nat.lt_succ_self _) _ _ hP hD hS _ (lv_sub hl [0, 1, 2, 3] rfl)
set_option maxHeartbeats 4000000 in
set_option maxRecDepth 100000 in
theorem c_X3_chooseExactSet (l : Launch) (D : va_G) (cI cZ : ClassId) (a : Nat → Nat) (sz : Nat) (B : Nat → Nat → Int32) (R : Nat → Nat → Int32) (E : Nat → Nat → Int32) (td : Int32) (n : Nat) (cu : Int32) (sm : Int32) (hB : B 11 0 = nI n) (hn : n ≤ 40) : Met l yX3_chooseExactSet wsX3_chooseExactSet ({ frames := 3, cells := 0, slots := 0, locals := 68 } : Room) (va_Pc [.ref (a 0), .int (cu), .int (sm)] (PreW D cI cZ (wCA a cI cZ B R E (td)) sz)) (va_Qv (fun (u : Nat → Nat → Int32) => u = cesE B E cu sm td n) (fun (u : Nat → Nat → Int32) => PostW D cI cZ (va_A (wCA a cI cZ B R E (td)) sz) (wCA a cI cZ B R u (td))) (va_A (wCA a cI cZ B R E (td)) sz)) 0 0 (va_A (wCA a cI cZ B R E (td)) sz) := by
  refine Met.ofW (cc := cX3_chooseExactSet) (maxL := 4) (ret := none) (by decide) rfl ?_
  intro p e s m args below meth c s₁ BB hml hv
  obtain ⟨rfl, hsz, hP, hK, hD0⟩ := hv
  have hx := BB.exec
  have hb := BB.bytes
  have hr := BB.returns
  have hts := atoms_spec (ws := wsX3_chooseExactSet) BB.pre
  have hown : s.vm.findClass RX3 = some m.cls := findClass_of_methodNamed BB.named
  have hlocks := BB.notSynchronized
  clear BB
  subst hsz
  have hD := hD0.self (sz := s.heap.size)
  clear hD0
  generalize hAe : va_A (wCA a cI cZ B R E (td)) s.heap.size = A at hD ⊢
  have hA : ∀ q : Nat, s.heap.size ≤ q → A q := fun q h => by rw [← hAe]; exact Or.inr h
  clear hAe
  have hS : va_S A s.heap s.heap [] := va_S.rf
  have hl := lv_entry ([.ref (a 0), .int (cu), .int (sm)]) (n := 4) (Nat.le_of_ble_eq_true rfl)
  rw [lg_entry_eq]
  generalize (lg_sl ([.ref (a 0), .int (cu), .int (sm)]) ++ List.replicate (4 - (lg_sl ([.ref (a 0), .int (cu), .int (sm)])).length) Slot.unset).toArray = ls at hl ⊢
  have hl : lv_has ls 4 [(0, .ref (a 0)), (1, .int (cu)), (2, .int (sm))] := hl
  generalize hHe : s.heap = H at hP
  have hS : va_S A s.heap H [] := by rw [← hHe]; exact va_S.rf
  clear hHe
  generalize hLe : ([] : List Loc) = locs at hS ⊢
  clear hLe
  refine lv_aload_n hx hb dX3_chooseExactSet_0 rfl (lv_at hl 0 rfl) ?_
  refine va_get (D := D) (ci := 3) (v := .ref (a 22)) (C := RX3) (T := TX3) (N := 4) hx hb hts (fun w h => List.mem_cons_of_mem _ (List.mem_append_left _ (List.mem_append_left _ (List.mem_append_right _ h)))) hown hK hP 0 rfl rfl 2 (by decide) (hts (.fieldLink RX3 26 "CashAllocator" "exactSet" "LCashAllocator$ExactSet;") (by decide +kernel)) (fun _ h9 => h9) rfl dX3_chooseExactSet_1 ?_
  refine zcVv (ci := 1) (q0 := 0) (wf := (fun (u : Nat → Nat → Int32) => (wCA a cI cZ B R u (td)))) ksES ⟨hx, hb, hml, hown, hts⟩ (zwES hP hD hS hA) hK (c_X1_clear l D cI cZ a H.size (E) ) (cwV 0 hts gX3_chooseExactSet_X1_clear rfl rfl rfl (by decide +kernel) ⟨Nat.le_of_ble_eq_true rfl, Nat.le_of_ble_eq_true rfl⟩) rfl rfl (by decide) (fun _ => zkES _) rfl hl.1 rfl (Nat.le_of_ble_eq_true rfl) dX3_chooseExactSet_4 ⟨Nat.le_of_ble_eq_true rfl, Nat.le_of_ble_eq_true rfl⟩ (fun u H locs hw hP hD hS => ?_)
  subst hw
  have hP : va_P D vwCl (wCA a cI cZ B R (clrE (E)) (td)) H := hP
  have hD : va_D A (wCA a cI cZ B R (clrE (E)) (td)) := hD
  refine lv_iconst (v := nI (0)) hx hb dX3_chooseExactSet_7 (by decide) ?_
  refine lv_istore_n (lv' := [(3, .int (nI (0))), (0, .ref (a 0)), (1, .int (cu)), (2, .int (sm))]) hx hb dX3_chooseExactSet_8 rfl hl (by decide) rfl (fun ls hl => ?_)
  have loop9 : ∀ (fu : Nat) (i : Nat) (mm : Nat) (Ei : Nat → Nat → Int32) (hin : i ≤ n) (hm : mm ≤ i) (hEi : Ei 3 0 = nI mm) (hg : ofL B cu td n 0 0 (clrE E) = ofL B cu td (n - i) i mm Ei) (hfu : n - i < fu) (H : Heap) (locs : List Loc) (hP : va_P D vwCl (wCA a cI cZ B R Ei (td)) H) (hD : va_D A (wCA a cI cZ B R Ei (td))) (hS : va_S A s.heap H locs) (ls : Array Slot) (hl : lv_has ls 4 [(3, .int (nI (i))), (0, .ref (a 0)), (1, .int (cu)), (2, .int (sm))]), W p l e (headSpec wsX3_chooseExactSet ({ frames := 3, cells := 0, slots := 0, locals := 68 } : Room)).room s m ([.ref (a 0), .int (cu), .int (sm)] : List Value).toArray below meth c H locs 0 0 (MQ below (va_Qv (fun (u : Nat → Nat → Int32) => u = cesE B E cu sm td n) (fun (u : Nat → Nat → Int32) => PostW D cI cZ A (wCA a cI cZ B R u (td))) A) ([.ref (a 0), .int (cu), .int (sm)] : List Value).toArray s 0 0 A) (F0 m 9 ls []) := by
    clear hP hD hS hl
    intro fu9
    induction fu9 with
    | zero => intro i mm Ei hin hm hEi hg hfu; exact absurd hfu (Nat.not_lt_zero _)
    | succ fu9 ih9 =>
      intro i mm Ei hin hm hEi hg hfu H locs hP hD hS ls hl
      refine lv_iload_n hx hb dX3_chooseExactSet_9 rfl (lv_at hl 0 rfl) ?_
      refine lv_aload_n hx hb dX3_chooseExactSet_10 rfl (lv_at hl 1 rfl) ?_
      refine va_get (D := D) (ci := 3) (v := .ref (a 1)) (C := RX3) (T := TX3) (N := 4) hx hb hts (fun w h => List.mem_cons_of_mem _ (List.mem_append_left _ (List.mem_append_left _ (List.mem_append_right _ h)))) hown hK hP 0 rfl rfl 0 (by decide) (hts (.fieldLink RX3 10 "CashAllocator" "billBook" "LCashAllocator$BillBook;") (by decide +kernel)) (fun _ h9 => h9) rfl dX3_chooseExactSet_11 ?_
      refine va_get (D := D) (ci := 0) (v := .int (nI (n))) (C := RX0) (T := TX0) (N := 12) hx hb hts (fun w h => List.mem_cons_of_mem _ (List.mem_append_left _ (List.mem_append_right _ h))) hown hK hP 1 rfl rfl 11 (by decide) (hts (.fieldLink RX3 43 "CashAllocator$BillBook" "count" "I") (by decide +kernel)) (fun _ h9 => h9) (congrArg (fun z => some (Value.int z)) hB) dX3_chooseExactSet_14 ?_
      refine lv_icmp_ge (tgt := 58) hx hb dX3_chooseExactSet_17 (by decide) (fun c17 => ?_) (fun c17 => ?_)
      · -- 17 taken
        rw [nI_leI (by omega) (by omega)] at c17
        refine lv_aload_n hx hb dX3_chooseExactSet_58 rfl (lv_at hl 1 rfl) ?_
        refine va_get (D := D) (ci := 3) (v := .ref (a 22)) (C := RX3) (T := TX3) (N := 4) hx hb hts (fun w h => List.mem_cons_of_mem _ (List.mem_append_left _ (List.mem_append_left _ (List.mem_append_right _ h)))) hown hK hP 0 rfl rfl 2 (by decide) (hts (.fieldLink RX3 26 "CashAllocator" "exactSet" "LCashAllocator$ExactSet;") (by decide +kernel)) (fun _ h9 => h9) rfl dX3_chooseExactSet_59 ?_
        refine lv_iload_n hx hb dX3_chooseExactSet_62 rfl (lv_at hl 3 rfl) ?_
        refine zcVv (ci := 1) (q0 := 0) (wf := (fun (u : Nat → Nat → Int32) => (wCA a cI cZ B R u (td)))) ksES ⟨hx, hb, hml, hown, hts⟩ (zwES hP hD hS hA) hK (c_X1_choose l D cI cZ a H.size (Ei) (sm) (mm) hEi (by first | assumption | omega)) (cwV 1 hts gX3_chooseExactSet_X1_choose rfl rfl rfl (by decide +kernel) ⟨Nat.le_of_ble_eq_true rfl, Nat.le_of_ble_eq_true rfl⟩) rfl rfl (by decide) (fun _ => zkES _) rfl hl.1 rfl (Nat.le_of_ble_eq_true rfl) dX3_chooseExactSet_63 ⟨Nat.le_of_ble_eq_true rfl, Nat.le_of_ble_eq_true rfl⟩ (fun u H locs hw hP hD hS => ?_)
        subst hw
        have hP : va_P D vwCl (wCA a cI cZ B R (chE (Ei) (sm) (mm)) (td)) H := hP
        have hD : va_D A (wCA a cI cZ B R (chE (Ei) (sm) (mm)) (td)) := hD
        have hfin : chE Ei sm mm = cesE B E cu sm td n := by unfold cesE; rw [hg, show n - i = 0 by omega]; rfl
        exact W.vret hx hb hr (fun t ht hW => ⟨⟨(chE (Ei) (sm) (mm)), rfl, hfin, by rw [ht]; exact hP, va_K.moved hW.alike hK, hD⟩, hS.F ht⟩) hS.2.2 dX3_chooseExactSet_66
      · -- 17 on
        rw [nI_leI (by omega) (by omega)] at c17
        have c17 : i < n := by omega
        have hk : n - i = (n - (i + 1)) + 1 := by omega
        rw [hk] at hg
        refine lv_aload_n hx hb dX3_chooseExactSet_20 rfl (lv_at hl 1 rfl) ?_
        refine va_get (D := D) (ci := 3) (v := .ref (a 1)) (C := RX3) (T := TX3) (N := 4) hx hb hts (fun w h => List.mem_cons_of_mem _ (List.mem_append_left _ (List.mem_append_left _ (List.mem_append_right _ h)))) hown hK hP 0 rfl rfl 0 (by decide) (hts (.fieldLink RX3 10 "CashAllocator" "billBook" "LCashAllocator$BillBook;") (by decide +kernel)) (fun _ h9 => h9) rfl dX3_chooseExactSet_21 ?_
        refine lv_iload_n hx hb dX3_chooseExactSet_24 rfl (lv_at hl 0 rfl) ?_
        refine lv_iload_n hx hb dX3_chooseExactSet_25 rfl (lv_at hl 2 rfl) ?_
        refine zcVi (ci := 0) (q0 := 0) (wf := (fun (u : Unit) => (wCA a cI cZ B R Ei (td)))) ksBB ⟨hx, hb, hml, hown, hts⟩ (zwBB hP hD hS hA) hK (c_X0_isOpenFor l D cI cZ a H.size (B) (i) (cu) (by first | assumption | omega)) (cwV 2 hts gX3_chooseExactSet_X0_isOpenFor rfl rfl rfl (by decide +kernel) ⟨Nat.le_of_ble_eq_true rfl, Nat.le_of_ble_eq_true rfl⟩) rfl rfl (by decide) (fun _ => zkBB _) rfl hl.1 rfl (Nat.le_of_ble_eq_true rfl) dX3_chooseExactSet_26 ⟨Nat.le_of_ble_eq_true rfl, Nat.le_of_ble_eq_true rfl⟩ (fun r26 u H locs hw hP hD hS => ?_)
        subst hw
        refine lv_if_eq (tgt := 52) hx hb dX3_chooseExactSet_29 (by decide) (fun c29 => ?_) (fun c29 => ?_)
        · -- 29 taken
          have c29 := b2_0 c29
          refine lv_iinc (v := nI (i + 1)) (lv' := [(3, .int (nI (i + 1))), (0, .ref (a 0)), (1, .int (cu)), (2, .int (sm))]) hx hb dX3_chooseExactSet_52 hl (k := 0) rfl (nI_1 _) (by decide) rfl (fun ls hl => ?_)
          refine lv_goto (tgt := 9) hx hb dX3_chooseExactSet_55 (by decide) ?_
          exact ih9 (i + 1) mm Ei (by omega) (by omega) hEi (by rw [hg, ofL, if_neg c29]) (by omega) _ _ hP hD hS _ (lv_sub hl [0, 1, 2, 3] rfl)
        · -- 29 on
          have c29 := b2_1 c29
          refine lv_aload_n hx hb dX3_chooseExactSet_32 rfl (lv_at hl 1 rfl) ?_
          refine va_get (D := D) (ci := 3) (v := .ref (a 22)) (C := RX3) (T := TX3) (N := 4) hx hb hts (fun w h => List.mem_cons_of_mem _ (List.mem_append_left _ (List.mem_append_left _ (List.mem_append_right _ h)))) hown hK hP 0 rfl rfl 2 (by decide) (hts (.fieldLink RX3 26 "CashAllocator" "exactSet" "LCashAllocator$ExactSet;") (by decide +kernel)) (fun _ h9 => h9) rfl dX3_chooseExactSet_33 ?_
          refine lv_iload_n hx hb dX3_chooseExactSet_36 rfl (lv_at hl 0 rfl) ?_
          refine lv_aload_n hx hb dX3_chooseExactSet_37 rfl (lv_at hl 1 rfl) ?_
          refine va_get (D := D) (ci := 3) (v := .ref (a 1)) (C := RX3) (T := TX3) (N := 4) hx hb hts (fun w h => List.mem_cons_of_mem _ (List.mem_append_left _ (List.mem_append_left _ (List.mem_append_right _ h)))) hown hK hP 0 rfl rfl 0 (by decide) (hts (.fieldLink RX3 10 "CashAllocator" "billBook" "LCashAllocator$BillBook;") (by decide +kernel)) (fun _ h9 => h9) rfl dX3_chooseExactSet_38 ?_
          refine lv_iload_n hx hb dX3_chooseExactSet_41 rfl (lv_at hl 0 rfl) ?_
          refine lv_aload_n hx hb dX3_chooseExactSet_42 rfl (lv_at hl 1 rfl) ?_
          refine va_get (D := D) (ci := 3) (v := .int (td)) (C := RX3) (T := TX3) (N := 4) hx hb hts (fun w h => List.mem_cons_of_mem _ (List.mem_append_left _ (List.mem_append_left _ (List.mem_append_right _ h)))) hown hK hP 0 rfl rfl 3 (by decide) (hts (.fieldLink RX3 30 "CashAllocator" "today" "I") (by decide +kernel)) (fun _ h9 => h9) rfl dX3_chooseExactSet_43 ?_
          refine zcVi (ci := 0) (q0 := 0) (wf := (fun (u : Unit) => (wCA a cI cZ B R Ei (td)))) ksBB ⟨hx, hb, hml, hown, hts⟩ (zwBB hP hD hS hA) hK (c_X0_dueOn l D cI cZ a H.size (B) (i) (td) (by first | assumption | omega)) (cwV 2 hts gX3_chooseExactSet_X0_dueOn rfl rfl rfl (by decide +kernel) ⟨Nat.le_of_ble_eq_true rfl, Nat.le_of_ble_eq_true rfl⟩) rfl rfl (by decide) (fun _ => zkBB _) rfl hl.1 rfl (Nat.le_of_ble_eq_true rfl) dX3_chooseExactSet_46 ⟨Nat.le_of_ble_eq_true rfl, Nat.le_of_ble_eq_true rfl⟩ (fun r46 u H locs hw hP hD hS => ?_)
          subst hw
          refine zcVv (ci := 1) (q0 := 0) (wf := (fun (u : Nat → Nat → Int32) => (wCA a cI cZ B R u (td)))) ksES ⟨hx, hb, hml, hown, hts⟩ (zwES hP hD hS hA) hK (c_X1_offer l D cI cZ a H.size (Ei) (mm) (nI (i)) (dueN (B) (i) (td)) hEi (by first | assumption | omega)) (cwV 2 hts gX3_chooseExactSet_X1_offer rfl rfl rfl (by decide +kernel) ⟨Nat.le_of_ble_eq_true rfl, Nat.le_of_ble_eq_true rfl⟩) rfl rfl (by decide) (fun _ => zkES _) rfl hl.1 rfl (Nat.le_of_ble_eq_true rfl) dX3_chooseExactSet_49 ⟨Nat.le_of_ble_eq_true rfl, Nat.le_of_ble_eq_true rfl⟩ (fun u H locs hw hP hD hS => ?_)
          subst hw
          have hP : va_P D vwCl (wCA a cI cZ B R (offE (Ei) (mm) (nI (i)) (dueN (B) (i) (td))) (td)) H := hP
          have hD : va_D A (wCA a cI cZ B R (offE (Ei) (mm) (nI (i)) (dueN (B) (i) (td))) (td)) := hD
          refine lv_iinc (v := nI (i + 1)) (lv' := [(3, .int (nI (i + 1))), (0, .ref (a 0)), (1, .int (cu)), (2, .int (sm))]) hx hb dX3_chooseExactSet_52 hl (k := 0) rfl (nI_1 _) (by decide) rfl (fun ls hl => ?_)
          refine lv_goto (tgt := 9) hx hb dX3_chooseExactSet_55 (by decide) ?_
          exact ih9 (i + 1) (mm + 1) (offE Ei mm (nI i) (dueN B i td)) (by omega) (by omega) rfl (by rw [hg, ofL, if_pos c29]) (by omega) _ _ hP hD hS _ (lv_sub hl [0, 1, 2, 3] rfl)
  exact loop9 _ (0) (0) ((clrE E)) (Nat.zero_le _) (Nat.le_refl _) (rfl) (rfl) (Nat.lt_succ_self _) _ _ hP hD hS _ (lv_sub hl [0, 1, 2, 3] rfl)
set_option maxHeartbeats 4000000 in
set_option maxRecDepth 100000 in
theorem c_X3_payExactSet (l : Launch) (D : va_G) (cI cZ : ClassId) (a : Nat → Nat) (sz : Nat) (B : Nat → Nat → Int32) (R : Nat → Nat → Int32) (E : Nat → Nat → Int32) (td : Int32) (rc : Nat) (n : Nat) (hrc : rc < 30) (hB : B 11 0 = nI n) (hn : n ≤ 40) : Met l yX3_payExactSet wsX3_payExactSet ({ frames := 4, cells := 0, slots := 0, locals := 92 } : Room) (va_Pc [.ref (a 0), .int (nI (rc))] (PreW D cI cZ (wCA a cI cZ B R E (td)) sz)) (va_Qv (fun (u : (Nat → Nat → Int32) × (Nat → Nat → Int32) × (Nat → Nat → Int32)) => u = ((exP (cesE B E (R 0 rc) (R 3 rc) td n) rc td n 3 0 B R).1, (exP (cesE B E (R 0 rc) (R 3 rc) td n) rc td n 3 0 B R).2, cesE B E (R 0 rc) (R 3 rc) td n)) (fun (u : (Nat → Nat → Int32) × (Nat → Nat → Int32) × (Nat → Nat → Int32)) => PostW D cI cZ (va_A (wCA a cI cZ B R E (td)) sz) (wCA a cI cZ (u.1) (u.2.1) (u.2.2) (td))) (va_A (wCA a cI cZ B R E (td)) sz)) 0 0 (va_A (wCA a cI cZ B R E (td)) sz) := by
  refine Met.ofW (cc := cX3_payExactSet) (maxL := 4) (ret := none) (by decide) rfl ?_
  intro p e s m args below meth c s₁ BB hml hv
  obtain ⟨rfl, hsz, hP, hK, hD0⟩ := hv
  have hx := BB.exec
  have hb := BB.bytes
  have hr := BB.returns
  have hts := atoms_spec (ws := wsX3_payExactSet) BB.pre
  have hown : s.vm.findClass RX3 = some m.cls := findClass_of_methodNamed BB.named
  have hlocks := BB.notSynchronized
  clear BB
  subst hsz
  have hD := hD0.self (sz := s.heap.size)
  clear hD0
  generalize hAe : va_A (wCA a cI cZ B R E (td)) s.heap.size = A at hD ⊢
  have hA : ∀ q : Nat, s.heap.size ≤ q → A q := fun q h => by rw [← hAe]; exact Or.inr h
  clear hAe
  have hS : va_S A s.heap s.heap [] := va_S.rf
  have hl := lv_entry ([.ref (a 0), .int (nI (rc))]) (n := 4) (Nat.le_of_ble_eq_true rfl)
  rw [lg_entry_eq]
  generalize (lg_sl ([.ref (a 0), .int (nI (rc))]) ++ List.replicate (4 - (lg_sl ([.ref (a 0), .int (nI (rc))])).length) Slot.unset).toArray = ls at hl ⊢
  have hl : lv_has ls 4 [(0, .ref (a 0)), (1, .int (nI (rc)))] := hl
  generalize hHe : s.heap = H at hP
  have hS : va_S A s.heap H [] := by rw [← hHe]; exact va_S.rf
  clear hHe
  generalize hLe : ([] : List Loc) = locs at hS ⊢
  clear hLe
  refine lv_aload_n hx hb dX3_payExactSet_0 rfl (lv_at hl 0 rfl) ?_
  refine lv_aload_n hx hb dX3_payExactSet_1 rfl (lv_at hl 0 rfl) ?_
  refine va_get (D := D) (ci := 3) (v := .ref (a 13)) (C := RX3) (T := TX3) (N := 4) hx hb hts (fun w h => List.mem_cons_of_mem _ (List.mem_append_left _ (List.mem_append_left _ (List.mem_append_left _ (List.mem_append_right _ h))))) hown hK hP 0 rfl rfl 1 (by decide) (hts (.fieldLink RX3 19 "CashAllocator" "receiptBook" "LCashAllocator$ReceiptBook;") (by decide +kernel)) (fun _ h9 => h9) rfl dX3_payExactSet_2 ?_
  refine va_get (D := D) (ci := 2) (v := .ref (a 14)) (C := RX2) (T := TX2) (N := 9) hx hb hts (fun w h => List.mem_cons_of_mem _ (List.mem_append_left _ (List.mem_append_left _ (List.mem_append_right _ h)))) hown hK hP 13 rfl rfl 0 (by decide) (hts (.fieldLink RX3 79 "CashAllocator$ReceiptBook" "customer" "[I") (by decide +kernel)) (fun _ h9 => h9) rfl dX3_payExactSet_5 ?_
  refine lv_iload_n hx hb dX3_payExactSet_8 rfl (lv_at hl 1 rfl) ?_
  refine zald hx hb hK hP 14 (n := 30) (f := (R 0)) rfl (rc) rfl (by omega) (by decide) dX3_payExactSet_9 ?_
  refine lv_aload_n hx hb dX3_payExactSet_10 rfl (lv_at hl 0 rfl) ?_
  refine va_get (D := D) (ci := 3) (v := .ref (a 13)) (C := RX3) (T := TX3) (N := 4) hx hb hts (fun w h => List.mem_cons_of_mem _ (List.mem_append_left _ (List.mem_append_left _ (List.mem_append_left _ (List.mem_append_right _ h))))) hown hK hP 0 rfl rfl 1 (by decide) (hts (.fieldLink RX3 19 "CashAllocator" "receiptBook" "LCashAllocator$ReceiptBook;") (by decide +kernel)) (fun _ h9 => h9) rfl dX3_payExactSet_11 ?_
  refine va_get (D := D) (ci := 2) (v := .ref (a 17)) (C := RX2) (T := TX2) (N := 9) hx hb hts (fun w h => List.mem_cons_of_mem _ (List.mem_append_left _ (List.mem_append_left _ (List.mem_append_right _ h)))) hown hK hP 13 rfl rfl 3 (by decide) (hts (.fieldLink RX3 85 "CashAllocator$ReceiptBook" "unapplied" "[I") (by decide +kernel)) (fun _ h9 => h9) rfl dX3_payExactSet_14 ?_
  refine lv_iload_n hx hb dX3_payExactSet_17 rfl (lv_at hl 1 rfl) ?_
  refine zald hx hb hK hP 17 (n := 30) (f := (R 3)) rfl (rc) rfl (by omega) (by decide) dX3_payExactSet_18 ?_
  refine zcVv (ci := 3) (q0 := 0) (wf := (fun (u : Nat → Nat → Int32) => (wCA a cI cZ B R u (td)))) (List.range 26) ⟨hx, hb, hml, hown, hts⟩ (zwAll 26 (by decide) rfl hP hD hS hA) hK (c_X3_chooseExactSet l D cI cZ a H.size (B) (R) (E) (td) (n) (R 0 (rc)) (R 3 (rc)) (by first | assumption | omega) (by first | assumption | omega)) (cwV 2 hts gX3_payExactSet_X3_chooseExactSet rfl rfl rfl (by decide +kernel) ⟨Nat.le_of_ble_eq_true rfl, Nat.le_of_ble_eq_true rfl⟩) rfl rfl (by decide) (fun _ => rfl) rfl hl.1 rfl (Nat.le_of_ble_eq_true rfl) dX3_payExactSet_19 ⟨Nat.le_of_ble_eq_true rfl, Nat.le_of_ble_eq_true rfl⟩ (fun u H locs hw hP hD hS => ?_)
  subst hw
  have hP : va_P D vwCl (wCA a cI cZ B R (cesE (B) (E) (R 0 (rc)) (R 3 (rc)) (td) n) (td)) H := hP
  have hD : va_D A (wCA a cI cZ B R (cesE (B) (E) (R 0 (rc)) (R 3 (rc)) (td) n) (td)) := hD
  refine lv_iconst (v := nI (0)) hx hb dX3_payExactSet_22 (by decide) ?_
  refine lv_istore_n (lv' := [(2, .int (nI (0))), (0, .ref (a 0)), (1, .int (nI (rc)))]) hx hb dX3_payExactSet_23 rfl hl (by decide) rfl (fun ls hl => ?_)
  have loop24 : ∀ (fu : Nat) (i : Nat) (Bi : Nat → Nat → Int32) (Ri : Nat → Nat → Int32) (Ei : Nat → Nat → Int32) (hin : i ≤ 3) (hEi : Ei = cesE B E (R 0 rc) (R 3 rc) td n) (hBi : Bi 11 0 = nI n) (hg : exP (cesE B E (R 0 rc) (R 3 rc) td n) rc td n 3 0 B R = exP Ei rc td n (3 - i) i Bi Ri) (hfu : 3 - i < fu) (H : Heap) (locs : List Loc) (hP : va_P D vwCl (wCA a cI cZ Bi Ri Ei (td)) H) (hD : va_D A (wCA a cI cZ Bi Ri Ei (td))) (hS : va_S A s.heap H locs) (ls : Array Slot) (hl : lv_has ls 4 [(2, .int (nI (i))), (0, .ref (a 0)), (1, .int (nI (rc)))]), W p l e (headSpec wsX3_payExactSet ({ frames := 4, cells := 0, slots := 0, locals := 92 } : Room)).room s m ([.ref (a 0), .int (nI (rc))] : List Value).toArray below meth c H locs 0 0 (MQ below (va_Qv (fun (u : (Nat → Nat → Int32) × (Nat → Nat → Int32) × (Nat → Nat → Int32)) => u = ((exP (cesE B E (R 0 rc) (R 3 rc) td n) rc td n 3 0 B R).1, (exP (cesE B E (R 0 rc) (R 3 rc) td n) rc td n 3 0 B R).2, cesE B E (R 0 rc) (R 3 rc) td n)) (fun (u : (Nat → Nat → Int32) × (Nat → Nat → Int32) × (Nat → Nat → Int32)) => PostW D cI cZ A (wCA a cI cZ (u.1) (u.2.1) (u.2.2) (td))) A) ([.ref (a 0), .int (nI (rc))] : List Value).toArray s 0 0 A) (F0 m 24 ls []) := by
    clear hP hD hS hl
    intro fu24
    induction fu24 with
    | zero => intro i Bi Ri Ei hin hEi hBi hg hfu; exact absurd hfu (Nat.not_lt_zero _)
    | succ fu24 ih24 =>
      intro i Bi Ri Ei hin hEi hBi hg hfu H locs hP hD hS ls hl
      refine lv_iload_n hx hb dX3_payExactSet_24 rfl (lv_at hl 0 rfl) ?_
      refine lv_iconst (v := nI (3)) hx hb dX3_payExactSet_25 (by decide) ?_
      refine lv_icmp_ge (tgt := 67) hx hb dX3_payExactSet_26 (by decide) (fun c26 => ?_) (fun c26 => ?_)
      · -- 26 taken
        rw [nI_leI (by omega) (by omega)] at c26
        have hfin : (Bi, Ri, Ei) = ((exP (cesE B E (R 0 rc) (R 3 rc) td n) rc td n 3 0 B R).1, (exP (cesE B E (R 0 rc) (R 3 rc) td n) rc td n 3 0 B R).2, cesE B E (R 0 rc) (R 3 rc) td n) := by rw [hg, show 3 - i = 0 by omega, ← hEi]; rfl
        exact W.vret hx hb hr (fun t ht hW => ⟨⟨(Bi, Ri, Ei), rfl, hfin, by rw [ht]; exact hP, va_K.moved hW.alike hK, hD⟩, hS.F ht⟩) hS.2.2 dX3_payExactSet_67
      · -- 26 on
        rw [nI_leI (by omega) (by omega)] at c26
        have c26 : i < 3 := by omega
        have hk : 3 - i = (3 - (i + 1)) + 1 := by omega
        rw [hk] at hg
        refine lv_aload_n hx hb dX3_payExactSet_29 rfl (lv_at hl 1 rfl) ?_
        refine va_get (D := D) (ci := 3) (v := .ref (a 22)) (C := RX3) (T := TX3) (N := 4) hx hb hts (fun w h => List.mem_cons_of_mem _ (List.mem_append_left _ (List.mem_append_left _ (List.mem_append_left _ (List.mem_append_right _ h))))) hown hK hP 0 rfl rfl 2 (by decide) (hts (.fieldLink RX3 26 "CashAllocator" "exactSet" "LCashAllocator$ExactSet;") (by decide +kernel)) (fun _ h9 => h9) rfl dX3_payExactSet_30 ?_
        refine va_get (D := D) (ci := 1) (v := .ref (a 25)) (C := RX1) (T := TX1) (N := 4) hx hb hts (fun w h => List.mem_cons_of_mem _ (List.mem_append_left _ (List.mem_append_right _ h))) hown hK hP 22 rfl rfl 2 (by decide) (hts (.fieldLink RX3 158 "CashAllocator$ExactSet" "chosen" "[I") (by decide +kernel)) (fun _ h9 => h9) rfl dX3_payExactSet_33 ?_
        refine lv_iload_n hx hb dX3_payExactSet_36 rfl (lv_at hl 0 rfl) ?_
        refine zald hx hb hK hP 25 (n := 3) (f := (Ei 2)) rfl (i) rfl (by omega) (by decide) dX3_payExactSet_37 ?_
        refine lv_istore_n (lv' := [(3, .int (Ei 2 (i))), (2, .int (nI (i))), (0, .ref (a 0)), (1, .int (nI (rc)))]) hx hb dX3_payExactSet_38 rfl hl (by decide) rfl (fun ls hl => ?_)
        refine lv_iload_n hx hb dX3_payExactSet_39 rfl (lv_at hl 0 rfl) ?_
        refine lv_if_lt (tgt := 61) hx hb dX3_payExactSet_40 (by decide) (fun c40 => ?_) (fun c40 => ?_)
        · -- 40 taken
          have hg2 : exP (cesE B E (R 0 rc) (R 3 rc) td n) rc td n 3 0 B R = exP Ei rc td n (3 - (i + 1)) (i + 1) Bi Ri := by rw [hg, exP, if_neg (fun z => z.1 c40)]
          refine lv_iinc (v := nI (i + 1)) (lv' := [(2, .int (nI (i + 1))), (3, .int (Ei 2 (i))), (0, .ref (a 0)), (1, .int (nI (rc)))]) hx hb dX3_payExactSet_61 hl (k := 1) rfl (nI_1 _) (by decide) rfl (fun ls hl => ?_)
          refine lv_goto (tgt := 24) hx hb dX3_payExactSet_64 (by decide) ?_
          exact ih24 (i + 1) (Bi) (Ri) Ei (by omega) hEi hBi hg2 (by omega) _ _ hP hD hS _ (lv_sub hl [0, 2, 3] rfl)
        · -- 40 on
          refine lv_iload_n hx hb dX3_payExactSet_43 rfl (lv_at hl 0 rfl) ?_
          refine lv_aload_n hx hb dX3_payExactSet_44 rfl (lv_at hl 2 rfl) ?_
          refine va_get (D := D) (ci := 3) (v := .ref (a 1)) (C := RX3) (T := TX3) (N := 4) hx hb hts (fun w h => List.mem_cons_of_mem _ (List.mem_append_left _ (List.mem_append_left _ (List.mem_append_left _ (List.mem_append_right _ h))))) hown hK hP 0 rfl rfl 0 (by decide) (hts (.fieldLink RX3 10 "CashAllocator" "billBook" "LCashAllocator$BillBook;") (by decide +kernel)) (fun _ h9 => h9) rfl dX3_payExactSet_45 ?_
          refine va_get (D := D) (ci := 0) (v := .int (nI (n))) (C := RX0) (T := TX0) (N := 12) hx hb hts (fun w h => List.mem_cons_of_mem _ (List.mem_append_right _ h)) hown hK hP 1 rfl rfl 11 (by decide) (hts (.fieldLink RX3 43 "CashAllocator$BillBook" "count" "I") (by decide +kernel)) (fun _ h9 => h9) (congrArg (fun z => some (Value.int z)) hBi) dX3_payExactSet_48 ?_
          refine lv_icmp_ge (tgt := 61) hx hb dX3_payExactSet_51 (by decide) (fun c51 => ?_) (fun c51 => ?_)
          · -- 51 taken
            have hg2 : exP (cesE B E (R 0 rc) (R 3 rc) td n) rc td n 3 0 B R = exP Ei rc td n (3 - (i + 1)) (i + 1) Bi Ri := by rw [hg, exP, if_neg (fun z => absurd z.2 (not_lt_of_ge32 c51))]
            refine lv_iinc (v := nI (i + 1)) (lv' := [(2, .int (nI (i + 1))), (3, .int (Ei 2 (i))), (0, .ref (a 0)), (1, .int (nI (rc)))]) hx hb dX3_payExactSet_61 hl (k := 1) rfl (nI_1 _) (by decide) rfl (fun ls hl => ?_)
            refine lv_goto (tgt := 24) hx hb dX3_payExactSet_64 (by decide) ?_
            exact ih24 (i + 1) (Bi) (Ri) Ei (by omega) hEi hBi hg2 (by omega) _ _ hP hD hS _ (lv_sub hl [0, 2, 3] rfl)
          · -- 51 on
            obtain ⟨j, hj, ej⟩ := ix_of (n := n) (by omega) c40 (lt_of_nge32 c51)
            rw [ej] at hl
            have hl : lv_has ls 4 [(3, .int (nI (j))), (2, .int (nI (i))), (0, .ref (a 0)), (1, .int (nI (rc)))] := hl
            have hg2 : exP (cesE B E (R 0 rc) (R 3 rc) td n) rc td n 3 0 B R = exP Ei rc td n (3 - (i + 1)) (i + 1) (payB Bi Ri rc j td) (payR Bi Ri rc j td) := by rw [hg, exP, if_pos ⟨c40, lt_of_nge32 c51⟩, ej, nI_clamp (by omega)]
            refine lv_aload_n hx hb dX3_payExactSet_54 rfl (lv_at hl 2 rfl) ?_
            refine lv_iload_n hx hb dX3_payExactSet_55 rfl (lv_at hl 3 rfl) ?_
            refine lv_iload_n hx hb dX3_payExactSet_56 rfl (lv_at hl 0 rfl) ?_
            refine zcVi (ci := 3) (q0 := 0) (wf := (fun (u : (Nat → Nat → Int32) × (Nat → Nat → Int32)) => (wCA a cI cZ (u.1) (u.2) Ei (td)))) (List.range 26) ⟨hx, hb, hml, hown, hts⟩ (zwAll 26 (by decide) rfl hP hD hS hA) hK (c_X3_payBill l D cI cZ a H.size (Bi) (Ri) (Ei) (td) (rc) (j) (by first | assumption | omega) (by first | assumption | omega)) (cwV 2 hts gX3_payExactSet_X3_payBill rfl rfl rfl (by decide +kernel) ⟨Nat.le_of_ble_eq_true rfl, Nat.le_of_ble_eq_true rfl⟩) rfl rfl (by decide) (fun _ => rfl) rfl hl.1 rfl (Nat.le_of_ble_eq_true rfl) dX3_payExactSet_57 ⟨Nat.le_of_ble_eq_true rfl, Nat.le_of_ble_eq_true rfl⟩ (fun r57 u H locs hw hP hD hS => ?_)
            obtain ⟨rfl, rfl⟩ := hw
            have hP : va_P D vwCl (wCA a cI cZ (payB (Bi) (Ri) (rc) (j) (td)) (payR (Bi) (Ri) (rc) (j) (td)) Ei (td)) H := hP
            have hD : va_D A (wCA a cI cZ (payB (Bi) (Ri) (rc) (j) (td)) (payR (Bi) (Ri) (rc) (j) (td)) Ei (td)) := hD
            refine lv_pop hx hb dX3_payExactSet_60 rfl ?_
            refine lv_iinc (v := nI (i + 1)) (lv' := [(2, .int (nI (i + 1))), (3, .int (nI (j))), (0, .ref (a 0)), (1, .int (nI (rc)))]) hx hb dX3_payExactSet_61 hl (k := 1) rfl (nI_1 _) (by decide) rfl (fun ls hl => ?_)
            refine lv_goto (tgt := 24) hx hb dX3_payExactSet_64 (by decide) ?_
            exact ih24 (i + 1) ((payB (Bi) (Ri) (rc) (j) (td))) ((payR (Bi) (Ri) (rc) (j) (td))) Ei (by omega) hEi (by rw [payB_n]; exact hBi) hg2 (by omega) _ _ hP hD hS _ (lv_sub hl [0, 2, 3] rfl)
  exact loop24 _ (0) (B) (R) ((cesE B E (R 0 rc) (R 3 rc) td n)) (Nat.zero_le _) (rfl) (hB) (rfl) (Nat.lt_succ_self _) _ _ hP hD hS _ (lv_sub hl [0, 1, 2] rfl)
set_option maxHeartbeats 4000000 in
set_option maxRecDepth 100000 in
theorem c_X3_payOtherBills (l : Launch) (D : va_G) (cI cZ : ClassId) (a : Nat → Nat) (sz : Nat) (B : Nat → Nat → Int32) (R : Nat → Nat → Int32) (E : Nat → Nat → Int32) (td : Int32) (rc : Nat) (n : Nat) (hrc : rc < 30) (hB : B 11 0 = nI n) (hn : n ≤ 40) : Met l yX3_payOtherBills wsX3_payOtherBills ({ frames := 5, cells := 0, slots := 0, locals := 115 } : Room) (va_Pc [.ref (a 0), .int (nI (rc))] (PreW D cI cZ (wCA a cI cZ B R E (td)) sz)) (va_Qv (fun (u : (Nat → Nat → Int32) × (Nat → Nat → Int32) × (Nat → Nat → Int32)) => u = othS B R E rc n td) (fun (u : (Nat → Nat → Int32) × (Nat → Nat → Int32) × (Nat → Nat → Int32)) => PostW D cI cZ (va_A (wCA a cI cZ B R E (td)) sz) (wCA a cI cZ (u.1) (u.2.1) (u.2.2) (td))) (va_A (wCA a cI cZ B R E (td)) sz)) 0 0 (va_A (wCA a cI cZ B R E (td)) sz) := by
  refine Met.ofW (cc := cX3_payOtherBills) (maxL := 2) (ret := none) (by decide) rfl ?_
  intro p e s m args below meth c s₁ BB hml hv
  obtain ⟨rfl, hsz, hP, hK, hD0⟩ := hv
  have hx := BB.exec
  have hb := BB.bytes
  have hr := BB.returns
  have hts := atoms_spec (ws := wsX3_payOtherBills) BB.pre
  have hown : s.vm.findClass RX3 = some m.cls := findClass_of_methodNamed BB.named
  have hlocks := BB.notSynchronized
  clear BB
  subst hsz
  have hD := hD0.self (sz := s.heap.size)
  clear hD0
  generalize hAe : va_A (wCA a cI cZ B R E (td)) s.heap.size = A at hD ⊢
  have hA : ∀ q : Nat, s.heap.size ≤ q → A q := fun q h => by rw [← hAe]; exact Or.inr h
  clear hAe
  have hS : va_S A s.heap s.heap [] := va_S.rf
  have hl := lv_entry ([.ref (a 0), .int (nI (rc))]) (n := 2) (Nat.le_of_ble_eq_true rfl)
  rw [lg_entry_eq]
  generalize (lg_sl ([.ref (a 0), .int (nI (rc))]) ++ List.replicate (2 - (lg_sl ([.ref (a 0), .int (nI (rc))])).length) Slot.unset).toArray = ls at hl ⊢
  have hl : lv_has ls 2 [(0, .ref (a 0)), (1, .int (nI (rc)))] := hl
  generalize hHe : s.heap = H at hP
  have hS : va_S A s.heap H [] := by rw [← hHe]; exact va_S.rf
  clear hHe
  generalize hLe : ([] : List Loc) = locs at hS ⊢
  clear hLe
  refine lv_aload_n hx hb dX3_payOtherBills_0 rfl (lv_at hl 0 rfl) ?_
  refine va_get (D := D) (ci := 3) (v := .ref (a 13)) (C := RX3) (T := TX3) (N := 4) hx hb hts (fun w h => List.mem_cons_of_mem _ (List.mem_append_left _ (List.mem_append_left _ (List.mem_append_left _ (List.mem_append_right _ h))))) hown hK hP 0 rfl rfl 1 (by decide) (hts (.fieldLink RX3 19 "CashAllocator" "receiptBook" "LCashAllocator$ReceiptBook;") (by decide +kernel)) (fun _ h9 => h9) rfl dX3_payOtherBills_1 ?_
  refine va_get (D := D) (ci := 2) (v := .ref (a 14)) (C := RX2) (T := TX2) (N := 9) hx hb hts (fun w h => List.mem_cons_of_mem _ (List.mem_append_left _ (List.mem_append_left _ (List.mem_append_right _ h)))) hown hK hP 13 rfl rfl 0 (by decide) (hts (.fieldLink RX3 79 "CashAllocator$ReceiptBook" "customer" "[I") (by decide +kernel)) (fun _ h9 => h9) rfl dX3_payOtherBills_4 ?_
  refine lv_iload_n hx hb dX3_payOtherBills_7 rfl (lv_at hl 1 rfl) ?_
  refine zald hx hb hK hP 14 (n := 30) (f := (R 0)) rfl (rc) rfl (by omega) (by decide) dX3_payOtherBills_8 ?_
  refine lv_iconst (v := (-1)) hx hb dX3_payOtherBills_9 (by decide) ?_
  refine lv_icmp_ne (tgt := 14) hx hb dX3_payOtherBills_10 (by decide) (fun c10 => ?_) (fun c10 => ?_)
  · -- 10 taken
    refine lv_aload_n hx hb dX3_payOtherBills_14 rfl (lv_at hl 0 rfl) ?_
    refine va_get (D := D) (ci := 3) (v := .ref (a 13)) (C := RX3) (T := TX3) (N := 4) hx hb hts (fun w h => List.mem_cons_of_mem _ (List.mem_append_left _ (List.mem_append_left _ (List.mem_append_left _ (List.mem_append_right _ h))))) hown hK hP 0 rfl rfl 1 (by decide) (hts (.fieldLink RX3 19 "CashAllocator" "receiptBook" "LCashAllocator$ReceiptBook;") (by decide +kernel)) (fun _ h9 => h9) rfl dX3_payOtherBills_15 ?_
    refine va_get (D := D) (ci := 2) (v := .ref (a 17)) (C := RX2) (T := TX2) (N := 9) hx hb hts (fun w h => List.mem_cons_of_mem _ (List.mem_append_left _ (List.mem_append_left _ (List.mem_append_right _ h)))) hown hK hP 13 rfl rfl 3 (by decide) (hts (.fieldLink RX3 85 "CashAllocator$ReceiptBook" "unapplied" "[I") (by decide +kernel)) (fun _ h9 => h9) rfl dX3_payOtherBills_18 ?_
    refine lv_iload_n hx hb dX3_payOtherBills_21 rfl (lv_at hl 1 rfl) ?_
    refine zald hx hb hK hP 17 (n := 30) (f := (R 3)) rfl (rc) rfl (by omega) (by decide) dX3_payOtherBills_22 ?_
    refine lv_if_le (tgt := 31) hx hb dX3_payOtherBills_23 (by decide) (fun c23 => ?_) (fun c23 => ?_)
    · -- 23 taken
      refine lv_aload_n hx hb dX3_payOtherBills_31 rfl (lv_at hl 0 rfl) ?_
      refine lv_iload_n hx hb dX3_payOtherBills_32 rfl (lv_at hl 1 rfl) ?_
      refine zcVv (ci := 3) (q0 := 0) (wf := (fun (u : (Nat → Nat → Int32) × (Nat → Nat → Int32)) => (wCA a cI cZ (u.1) (u.2) E (td)))) (List.range 26) ⟨hx, hb, hml, hown, hts⟩ (zwAll 26 (by decide) rfl hP hD hS hA) hK (c_X3_payOldestBills l D cI cZ a H.size (B) (R) (E) (td) (rc) (n) (by first | assumption | omega) (by first | exact hB | (rw [exP_n]; exact hB)) (by first | assumption | omega)) (cwV 1 hts gX3_payOtherBills_X3_payOldestBills rfl rfl rfl (by decide +kernel) ⟨Nat.le_of_ble_eq_true rfl, Nat.le_of_ble_eq_true rfl⟩) rfl rfl (by decide) (fun _ => rfl) rfl hl.1 rfl (Nat.le_of_ble_eq_true rfl) dX3_payOtherBills_33 ⟨Nat.le_of_ble_eq_true rfl, Nat.le_of_ble_eq_true rfl⟩ (fun u H locs hw hP hD hS => ?_)
      subst hw
      have hP : va_P D vwCl (wCA a cI cZ ((oldL (rc) ((R) 0 (rc)) (td) n 0 (B) (R)).1) ((oldL (rc) ((R) 0 (rc)) (td) n 0 (B) (R)).2) E (td)) H := hP
      have hD : va_D A (wCA a cI cZ ((oldL (rc) ((R) 0 (rc)) (td) n 0 (B) (R)).1) ((oldL (rc) ((R) 0 (rc)) (td) n 0 (B) (R)).2) E (td)) := hD
      exact W.vret hx hb hr (fun t ht hW => ⟨⟨(((oldL (rc) ((R) 0 (rc)) (td) n 0 (B) (R)).1), ((oldL (rc) ((R) 0 (rc)) (td) n 0 (B) (R)).2), E), rfl, (by unfold othS; rw [if_neg c10]; first | (rw [if_pos c23]; done) | (rw [if_neg c23]; done)), by rw [ht]; exact hP, va_K.moved hW.alike hK, hD⟩, hS.F ht⟩) hS.2.2 dX3_payOtherBills_36
    · -- 23 on
      refine lv_aload_n hx hb dX3_payOtherBills_26 rfl (lv_at hl 0 rfl) ?_
      refine lv_iload_n hx hb dX3_payOtherBills_27 rfl (lv_at hl 1 rfl) ?_
      refine zcVv (ci := 3) (q0 := 0) (wf := (fun (u : (Nat → Nat → Int32) × (Nat → Nat → Int32) × (Nat → Nat → Int32)) => (wCA a cI cZ (u.1) (u.2.1) (u.2.2) (td)))) (List.range 26) ⟨hx, hb, hml, hown, hts⟩ (zwAll 26 (by decide) rfl hP hD hS hA) hK (c_X3_payExactSet l D cI cZ a H.size (B) (R) (E) (td) (rc) (n) (by first | assumption | omega) (by first | assumption | omega) (by first | assumption | omega)) (cwV 1 hts gX3_payOtherBills_X3_payExactSet rfl rfl rfl (by decide +kernel) ⟨Nat.le_of_ble_eq_true rfl, Nat.le_of_ble_eq_true rfl⟩) rfl rfl (by decide) (fun _ => rfl) rfl hl.1 rfl (Nat.le_of_ble_eq_true rfl) dX3_payOtherBills_28 ⟨Nat.le_of_ble_eq_true rfl, Nat.le_of_ble_eq_true rfl⟩ (fun u H locs hw hP hD hS => ?_)
      subst hw
      have hP : va_P D vwCl (wCA a cI cZ ((exP (cesE (B) (E) ((R) 0 (rc)) ((R) 3 (rc)) (td) n) (rc) (td) n 3 0 (B) (R)).1) ((exP (cesE (B) (E) ((R) 0 (rc)) ((R) 3 (rc)) (td) n) (rc) (td) n 3 0 (B) (R)).2) (cesE (B) (E) ((R) 0 (rc)) ((R) 3 (rc)) (td) n) (td)) H := hP
      have hD : va_D A (wCA a cI cZ ((exP (cesE (B) (E) ((R) 0 (rc)) ((R) 3 (rc)) (td) n) (rc) (td) n 3 0 (B) (R)).1) ((exP (cesE (B) (E) ((R) 0 (rc)) ((R) 3 (rc)) (td) n) (rc) (td) n 3 0 (B) (R)).2) (cesE (B) (E) ((R) 0 (rc)) ((R) 3 (rc)) (td) n) (td)) := hD
      refine lv_aload_n hx hb dX3_payOtherBills_31 rfl (lv_at hl 0 rfl) ?_
      refine lv_iload_n hx hb dX3_payOtherBills_32 rfl (lv_at hl 1 rfl) ?_
      refine zcVv (ci := 3) (q0 := 0) (wf := (fun (u : (Nat → Nat → Int32) × (Nat → Nat → Int32)) => (wCA a cI cZ (u.1) (u.2) (cesE (B) (E) ((R) 0 (rc)) ((R) 3 (rc)) (td) n) (td)))) (List.range 26) ⟨hx, hb, hml, hown, hts⟩ (zwAll 26 (by decide) rfl hP hD hS hA) hK (c_X3_payOldestBills l D cI cZ a H.size (((exP (cesE (B) (E) ((R) 0 (rc)) ((R) 3 (rc)) (td) n) (rc) (td) n 3 0 (B) (R)).1)) (((exP (cesE (B) (E) ((R) 0 (rc)) ((R) 3 (rc)) (td) n) (rc) (td) n 3 0 (B) (R)).2)) ((cesE (B) (E) ((R) 0 (rc)) ((R) 3 (rc)) (td) n)) (td) (rc) (n) (by first | assumption | omega) (by first | exact hB | (rw [exP_n]; exact hB)) (by first | assumption | omega)) (cwV 1 hts gX3_payOtherBills_X3_payOldestBills rfl rfl rfl (by decide +kernel) ⟨Nat.le_of_ble_eq_true rfl, Nat.le_of_ble_eq_true rfl⟩) rfl rfl (by decide) (fun _ => rfl) rfl hl.1 rfl (Nat.le_of_ble_eq_true rfl) dX3_payOtherBills_33 ⟨Nat.le_of_ble_eq_true rfl, Nat.le_of_ble_eq_true rfl⟩ (fun u H locs hw hP hD hS => ?_)
      subst hw
      have hP : va_P D vwCl (wCA a cI cZ ((oldL (rc) ((((exP (cesE (B) (E) ((R) 0 (rc)) ((R) 3 (rc)) (td) n) (rc) (td) n 3 0 (B) (R)).2)) 0 (rc)) (td) n 0 (((exP (cesE (B) (E) ((R) 0 (rc)) ((R) 3 (rc)) (td) n) (rc) (td) n 3 0 (B) (R)).1)) (((exP (cesE (B) (E) ((R) 0 (rc)) ((R) 3 (rc)) (td) n) (rc) (td) n 3 0 (B) (R)).2))).1) ((oldL (rc) ((((exP (cesE (B) (E) ((R) 0 (rc)) ((R) 3 (rc)) (td) n) (rc) (td) n 3 0 (B) (R)).2)) 0 (rc)) (td) n 0 (((exP (cesE (B) (E) ((R) 0 (rc)) ((R) 3 (rc)) (td) n) (rc) (td) n 3 0 (B) (R)).1)) (((exP (cesE (B) (E) ((R) 0 (rc)) ((R) 3 (rc)) (td) n) (rc) (td) n 3 0 (B) (R)).2))).2) (cesE (B) (E) ((R) 0 (rc)) ((R) 3 (rc)) (td) n) (td)) H := hP
      have hD : va_D A (wCA a cI cZ ((oldL (rc) ((((exP (cesE (B) (E) ((R) 0 (rc)) ((R) 3 (rc)) (td) n) (rc) (td) n 3 0 (B) (R)).2)) 0 (rc)) (td) n 0 (((exP (cesE (B) (E) ((R) 0 (rc)) ((R) 3 (rc)) (td) n) (rc) (td) n 3 0 (B) (R)).1)) (((exP (cesE (B) (E) ((R) 0 (rc)) ((R) 3 (rc)) (td) n) (rc) (td) n 3 0 (B) (R)).2))).1) ((oldL (rc) ((((exP (cesE (B) (E) ((R) 0 (rc)) ((R) 3 (rc)) (td) n) (rc) (td) n 3 0 (B) (R)).2)) 0 (rc)) (td) n 0 (((exP (cesE (B) (E) ((R) 0 (rc)) ((R) 3 (rc)) (td) n) (rc) (td) n 3 0 (B) (R)).1)) (((exP (cesE (B) (E) ((R) 0 (rc)) ((R) 3 (rc)) (td) n) (rc) (td) n 3 0 (B) (R)).2))).2) (cesE (B) (E) ((R) 0 (rc)) ((R) 3 (rc)) (td) n) (td)) := hD
      exact W.vret hx hb hr (fun t ht hW => ⟨⟨(((oldL (rc) ((((exP (cesE (B) (E) ((R) 0 (rc)) ((R) 3 (rc)) (td) n) (rc) (td) n 3 0 (B) (R)).2)) 0 (rc)) (td) n 0 (((exP (cesE (B) (E) ((R) 0 (rc)) ((R) 3 (rc)) (td) n) (rc) (td) n 3 0 (B) (R)).1)) (((exP (cesE (B) (E) ((R) 0 (rc)) ((R) 3 (rc)) (td) n) (rc) (td) n 3 0 (B) (R)).2))).1), ((oldL (rc) ((((exP (cesE (B) (E) ((R) 0 (rc)) ((R) 3 (rc)) (td) n) (rc) (td) n 3 0 (B) (R)).2)) 0 (rc)) (td) n 0 (((exP (cesE (B) (E) ((R) 0 (rc)) ((R) 3 (rc)) (td) n) (rc) (td) n 3 0 (B) (R)).1)) (((exP (cesE (B) (E) ((R) 0 (rc)) ((R) 3 (rc)) (td) n) (rc) (td) n 3 0 (B) (R)).2))).2), (cesE (B) (E) ((R) 0 (rc)) ((R) 3 (rc)) (td) n)), rfl, (by unfold othS; rw [if_neg c10]; first | (rw [if_pos c23]; done) | (rw [if_neg c23]; done)), by rw [ht]; exact hP, va_K.moved hW.alike hK, hD⟩, hS.F ht⟩) hS.2.2 dX3_payOtherBills_36
  · -- 10 on
    exact W.vret hx hb hr (fun t ht hW => ⟨⟨(B, R, E), rfl, (by unfold othS; rw [if_pos c10]), by rw [ht]; exact hP, va_K.moved hW.alike hK, hD⟩, hS.F ht⟩) hS.2.2 dX3_payOtherBills_13
set_option maxHeartbeats 4000000 in
set_option maxRecDepth 100000 in
theorem c_X3_payNamedBills (l : Launch) (D : va_G) (cI cZ : ClassId) (a : Nat → Nat) (sz : Nat) (B : Nat → Nat → Int32) (R : Nat → Nat → Int32) (E : Nat → Nat → Int32) (td : Int32) (rc : Nat) (rf : Int32) (n : Nat) (hrc : rc < 30) (hB : B 11 0 = nI n) (hn : n ≤ 40) : Met l yX3_payNamedBills wsX3_payNamedBills ({ frames := 4, cells := 0, slots := 0, locals := 92 } : Room) (va_Pc [.ref (a 0), .int (nI (rc)), .int (rf)] (PreW D cI cZ (wCA a cI cZ B R E (td)) sz)) (va_Qv (fun (u : (Nat → Nat → Int32) × (Nat → Nat → Int32)) => u = namS B R rc rf n td) (fun (u : (Nat → Nat → Int32) × (Nat → Nat → Int32)) => PostW D cI cZ (va_A (wCA a cI cZ B R E (td)) sz) (wCA a cI cZ (u.1) (u.2) E (td))) (va_A (wCA a cI cZ B R E (td)) sz)) 0 0 (va_A (wCA a cI cZ B R E (td)) sz) := by
  refine Met.ofW (cc := cX3_payNamedBills) (maxL := 6) (ret := none) (by decide) rfl ?_
  intro p e s m args below meth c s₁ BB hml hv
  obtain ⟨rfl, hsz, hP, hK, hD0⟩ := hv
  have hx := BB.exec
  have hb := BB.bytes
  have hr := BB.returns
  have hts := atoms_spec (ws := wsX3_payNamedBills) BB.pre
  have hown : s.vm.findClass RX3 = some m.cls := findClass_of_methodNamed BB.named
  have hlocks := BB.notSynchronized
  clear BB
  subst hsz
  have hD := hD0.self (sz := s.heap.size)
  clear hD0
  generalize hAe : va_A (wCA a cI cZ B R E (td)) s.heap.size = A at hD ⊢
  have hA : ∀ q : Nat, s.heap.size ≤ q → A q := fun q h => by rw [← hAe]; exact Or.inr h
  clear hAe
  have hS : va_S A s.heap s.heap [] := va_S.rf
  have hl := lv_entry ([.ref (a 0), .int (nI (rc)), .int (rf)]) (n := 6) (Nat.le_of_ble_eq_true rfl)
  rw [lg_entry_eq]
  generalize (lg_sl ([.ref (a 0), .int (nI (rc)), .int (rf)]) ++ List.replicate (6 - (lg_sl ([.ref (a 0), .int (nI (rc)), .int (rf)])).length) Slot.unset).toArray = ls at hl ⊢
  have hl : lv_has ls 6 [(0, .ref (a 0)), (1, .int (nI (rc))), (2, .int (rf))] := hl
  generalize hHe : s.heap = H at hP
  have hS : va_S A s.heap H [] := by rw [← hHe]; exact va_S.rf
  clear hHe
  generalize hLe : ([] : List Loc) = locs at hS ⊢
  clear hLe
  refine lv_aload_n hx hb dX3_payNamedBills_0 rfl (lv_at hl 0 rfl) ?_
  refine va_get (D := D) (ci := 3) (v := .ref (a 13)) (C := RX3) (T := TX3) (N := 4) hx hb hts (fun w h => List.mem_cons_of_mem _ (List.mem_append_left _ (List.mem_append_left _ (List.mem_append_right _ h)))) hown hK hP 0 rfl rfl 1 (by decide) (hts (.fieldLink RX3 19 "CashAllocator" "receiptBook" "LCashAllocator$ReceiptBook;") (by decide +kernel)) (fun _ h9 => h9) rfl dX3_payNamedBills_1 ?_
  refine va_get (D := D) (ci := 2) (v := .ref (a 14)) (C := RX2) (T := TX2) (N := 9) hx hb hts (fun w h => List.mem_cons_of_mem _ (List.mem_append_left _ (List.mem_append_right _ h))) hown hK hP 13 rfl rfl 0 (by decide) (hts (.fieldLink RX3 79 "CashAllocator$ReceiptBook" "customer" "[I") (by decide +kernel)) (fun _ h9 => h9) rfl dX3_payNamedBills_4 ?_
  refine lv_iload_n hx hb dX3_payNamedBills_7 rfl (lv_at hl 1 rfl) ?_
  refine zald hx hb hK hP 14 (n := 30) (f := (R 0)) rfl (rc) rfl (by omega) (by decide) dX3_payNamedBills_8 ?_
  refine lv_iconst (v := (-1)) hx hb dX3_payNamedBills_9 (by decide) ?_
  refine lv_icmp_ne (tgt := 30) hx hb dX3_payNamedBills_10 (by decide) (fun c10 => ?_) (fun c10 => ?_)
  · -- 10 taken
    obtain ⟨R1, hR1⟩ : ∃ z, z = R := ⟨_, rfl⟩
    rw [← hR1] at hP hD
    obtain ⟨cv, hcv⟩ : ∃ z, z = R1 0 rc := ⟨_, rfl⟩
    have hst : namS B R rc rf n td = namL rc rf cv td (n - 0) 0 B R1 := by rw [hcv, hR1]; unfold namS; first | (rw [if_pos c10]; rfl) | (rw [if_neg c10]; rfl)
    refine lv_aload_n hx hb dX3_payNamedBills_30 rfl (lv_at hl 0 rfl) ?_
    refine va_get (D := D) (ci := 3) (v := .ref (a 13)) (C := RX3) (T := TX3) (N := 4) hx hb hts (fun w h => List.mem_cons_of_mem _ (List.mem_append_left _ (List.mem_append_left _ (List.mem_append_right _ h)))) hown hK hP 0 rfl rfl 1 (by decide) (hts (.fieldLink RX3 19 "CashAllocator" "receiptBook" "LCashAllocator$ReceiptBook;") (by decide +kernel)) (fun _ h9 => h9) rfl dX3_payNamedBills_31 ?_
    refine va_get (D := D) (ci := 2) (v := .ref (a 14)) (C := RX2) (T := TX2) (N := 9) hx hb hts (fun w h => List.mem_cons_of_mem _ (List.mem_append_left _ (List.mem_append_right _ h))) hown hK hP 13 rfl rfl 0 (by decide) (hts (.fieldLink RX3 79 "CashAllocator$ReceiptBook" "customer" "[I") (by decide +kernel)) (fun _ h9 => h9) rfl dX3_payNamedBills_34 ?_
    refine lv_iload_n hx hb dX3_payNamedBills_37 rfl (lv_at hl 1 rfl) ?_
    refine zald hx hb hK hP 14 (n := 30) (f := (R1 0)) rfl (rc) rfl (by omega) (by decide) dX3_payNamedBills_38 ?_
    refine lv_istore_n (lv' := [(3, .int (R1 0 (rc))), (0, .ref (a 0)), (1, .int (nI (rc))), (2, .int (rf))]) hx hb dX3_payNamedBills_39 rfl hl (by decide) rfl (fun ls hl => ?_)
    refine lv_iconst (v := nI (0)) hx hb dX3_payNamedBills_40 (by decide) ?_
    refine lv_istore (lv' := [(4, .int (nI (0))), (3, .int (R1 0 (rc))), (0, .ref (a 0)), (1, .int (nI (rc))), (2, .int (rf))]) hx hb dX3_payNamedBills_41 hl (by decide) rfl (fun ls hl => ?_)
    have loop43 : ∀ (fu : Nat) (i : Nat) (Bi : Nat → Nat → Int32) (Ri : Nat → Nat → Int32) (hin : i ≤ n) (hBi : Bi 11 0 = nI n) (hg : namS B R rc rf n td = namL rc rf cv td (n - i) i Bi Ri) (hfu : n - i < fu) (H : Heap) (locs : List Loc) (hP : va_P D vwCl (wCA a cI cZ Bi Ri E (td)) H) (hD : va_D A (wCA a cI cZ Bi Ri E (td))) (hS : va_S A s.heap H locs) (ls : Array Slot) (hl : lv_has ls 6 [(4, .int (nI (i))), (3, .int (cv)), (0, .ref (a 0)), (1, .int (nI (rc))), (2, .int (rf))]), W p l e (headSpec wsX3_payNamedBills ({ frames := 4, cells := 0, slots := 0, locals := 92 } : Room)).room s m ([.ref (a 0), .int (nI (rc)), .int (rf)] : List Value).toArray below meth c H locs 0 0 (MQ below (va_Qv (fun (u : (Nat → Nat → Int32) × (Nat → Nat → Int32)) => u = namS B R rc rf n td) (fun (u : (Nat → Nat → Int32) × (Nat → Nat → Int32)) => PostW D cI cZ A (wCA a cI cZ (u.1) (u.2) E (td))) A) ([.ref (a 0), .int (nI (rc)), .int (rf)] : List Value).toArray s 0 0 A) (F0 m 43 ls []) := by
      clear hP hD hS hl
      intro fu43
      induction fu43 with
      | zero => intro i Bi Ri hin hBi hg hfu; exact absurd hfu (Nat.not_lt_zero _)
      | succ fu43 ih43 =>
        intro i Bi Ri hin hBi hg hfu H locs hP hD hS ls hl
        refine lv_iload hx hb dX3_payNamedBills_43 (lv_at hl 0 rfl) ?_
        refine lv_aload_n hx hb dX3_payNamedBills_45 rfl (lv_at hl 2 rfl) ?_
        refine va_get (D := D) (ci := 3) (v := .ref (a 1)) (C := RX3) (T := TX3) (N := 4) hx hb hts (fun w h => List.mem_cons_of_mem _ (List.mem_append_left _ (List.mem_append_left _ (List.mem_append_right _ h)))) hown hK hP 0 rfl rfl 0 (by decide) (hts (.fieldLink RX3 10 "CashAllocator" "billBook" "LCashAllocator$BillBook;") (by decide +kernel)) (fun _ h9 => h9) rfl dX3_payNamedBills_46 ?_
        refine va_get (D := D) (ci := 0) (v := .int (nI (n))) (C := RX0) (T := TX0) (N := 12) hx hb hts (fun w h => List.mem_cons_of_mem _ (List.mem_append_right _ h)) hown hK hP 1 rfl rfl 11 (by decide) (hts (.fieldLink RX3 43 "CashAllocator$BillBook" "count" "I") (by decide +kernel)) (fun _ h9 => h9) (congrArg (fun z => some (Value.int z)) hBi) dX3_payNamedBills_49 ?_
        refine lv_icmp_ge (tgt := 124) hx hb dX3_payNamedBills_52 (by decide) (fun c52 => ?_) (fun c52 => ?_)
        · -- 52 taken
          rw [nI_leI (by omega) (by omega)] at c52
          have hfin : (Bi, Ri) = namS B R rc rf n td := by rw [hg, show n - i = 0 by omega]; rfl
          exact W.vret hx hb hr (fun t ht hW => ⟨⟨(Bi, Ri), rfl, hfin, by rw [ht]; exact hP, va_K.moved hW.alike hK, hD⟩, hS.F ht⟩) hS.2.2 dX3_payNamedBills_124
        · -- 52 on
          rw [nI_leI (by omega) (by omega)] at c52
          have c52 : i < n := by omega
          have hk : n - i = (n - (i + 1)) + 1 := by omega
          rw [hk] at hg
          refine lv_aload_n hx hb dX3_payNamedBills_55 rfl (lv_at hl 2 rfl) ?_
          refine va_get (D := D) (ci := 3) (v := .ref (a 13)) (C := RX3) (T := TX3) (N := 4) hx hb hts (fun w h => List.mem_cons_of_mem _ (List.mem_append_left _ (List.mem_append_left _ (List.mem_append_right _ h)))) hown hK hP 0 rfl rfl 1 (by decide) (hts (.fieldLink RX3 19 "CashAllocator" "receiptBook" "LCashAllocator$ReceiptBook;") (by decide +kernel)) (fun _ h9 => h9) rfl dX3_payNamedBills_56 ?_
          refine va_get (D := D) (ci := 2) (v := .ref (a 17)) (C := RX2) (T := TX2) (N := 9) hx hb hts (fun w h => List.mem_cons_of_mem _ (List.mem_append_left _ (List.mem_append_right _ h))) hown hK hP 13 rfl rfl 3 (by decide) (hts (.fieldLink RX3 85 "CashAllocator$ReceiptBook" "unapplied" "[I") (by decide +kernel)) (fun _ h9 => h9) rfl dX3_payNamedBills_59 ?_
          refine lv_iload_n hx hb dX3_payNamedBills_62 rfl (lv_at hl 3 rfl) ?_
          refine zald hx hb hK hP 17 (n := 30) (f := (Ri 3)) rfl (rc) rfl (by omega) (by decide) dX3_payNamedBills_63 ?_
          refine lv_if_le (tgt := 124) hx hb dX3_payNamedBills_64 (by decide) (fun c64 => ?_) (fun c64 => ?_)
          · -- 64 taken
            have hfin : (Bi, Ri) = namS B R rc rf n td := by rw [hg, namL, if_pos c64]
            exact W.vret hx hb hr (fun t ht hW => ⟨⟨(Bi, Ri), rfl, hfin, by rw [ht]; exact hP, va_K.moved hW.alike hK, hD⟩, hS.F ht⟩) hS.2.2 dX3_payNamedBills_124
          · -- 64 on
            refine lv_aload_n hx hb dX3_payNamedBills_67 rfl (lv_at hl 2 rfl) ?_
            refine va_get (D := D) (ci := 3) (v := .ref (a 1)) (C := RX3) (T := TX3) (N := 4) hx hb hts (fun w h => List.mem_cons_of_mem _ (List.mem_append_left _ (List.mem_append_left _ (List.mem_append_right _ h)))) hown hK hP 0 rfl rfl 0 (by decide) (hts (.fieldLink RX3 10 "CashAllocator" "billBook" "LCashAllocator$BillBook;") (by decide +kernel)) (fun _ h9 => h9) rfl dX3_payNamedBills_68 ?_
            refine lv_iload hx hb dX3_payNamedBills_71 (lv_at hl 0 rfl) ?_
            refine lv_iload_n hx hb dX3_payNamedBills_73 rfl (lv_at hl 1 rfl) ?_
            refine zcVi (ci := 0) (q0 := 0) (wf := (fun (u : Unit) => (wCA a cI cZ Bi Ri E (td)))) ksBB ⟨hx, hb, hml, hown, hts⟩ (zwBB hP hD hS hA) hK (c_X0_isOpenFor l D cI cZ a H.size (Bi) (i) (cv) (by first | assumption | omega)) (cwV 2 hts gX3_payNamedBills_X0_isOpenFor rfl rfl rfl (by decide +kernel) ⟨Nat.le_of_ble_eq_true rfl, Nat.le_of_ble_eq_true rfl⟩) rfl rfl (by decide) (fun _ => zkBB _) rfl hl.1 rfl (Nat.le_of_ble_eq_true rfl) dX3_payNamedBills_74 ⟨Nat.le_of_ble_eq_true rfl, Nat.le_of_ble_eq_true rfl⟩ (fun r74 u H locs hw hP hD hS => ?_)
            subst hw
            refine lv_if_eq (tgt := 118) hx hb dX3_payNamedBills_77 (by decide) (fun c77 => ?_) (fun c77 => ?_)
            · -- 77 taken
              have c77 := b2_0 c77
              have hg2 : namS B R rc rf n td = namL rc rf cv td (n - (i + 1)) (i + 1) Bi Ri := by rw [hg, namL, if_neg c64, if_neg (fun z => c77 z.1)]
              refine lv_iinc (v := nI (i + 1)) (lv' := [(4, .int (nI (i + 1))), (3, .int (cv)), (0, .ref (a 0)), (1, .int (nI (rc))), (2, .int (rf))]) hx hb dX3_payNamedBills_118 hl (k := 0) rfl (nI_1 _) (by decide) rfl (fun ls hl => ?_)
              refine lv_goto (tgt := 43) hx hb dX3_payNamedBills_121 (by decide) ?_
              exact ih43 (i + 1) (Bi) (Ri) (by omega) hBi hg2 (by omega) _ _ hP hD hS _ (lv_sub hl [0, 1, 2, 3, 4] rfl)
            · -- 77 on
              have c77 := b2_1 c77
              refine lv_aload_n hx hb dX3_payNamedBills_80 rfl (lv_at hl 2 rfl) ?_
              refine va_get (D := D) (ci := 3) (v := .ref (a 1)) (C := RX3) (T := TX3) (N := 4) hx hb hts (fun w h => List.mem_cons_of_mem _ (List.mem_append_left _ (List.mem_append_left _ (List.mem_append_right _ h)))) hown hK hP 0 rfl rfl 0 (by decide) (hts (.fieldLink RX3 10 "CashAllocator" "billBook" "LCashAllocator$BillBook;") (by decide +kernel)) (fun _ h9 => h9) rfl dX3_payNamedBills_81 ?_
              refine va_get (D := D) (ci := 0) (v := .ref (a 4)) (C := RX0) (T := TX0) (N := 12) hx hb hts (fun w h => List.mem_cons_of_mem _ (List.mem_append_right _ h)) hown hK hP 1 rfl rfl 2 (by decide) (hts (.fieldLink RX3 185 "CashAllocator$BillBook" "reference" "[I") (by decide +kernel)) (fun _ h9 => h9) rfl dX3_payNamedBills_84 ?_
              refine lv_iload hx hb dX3_payNamedBills_87 (lv_at hl 0 rfl) ?_
              refine zald hx hb hK hP 4 (n := 40) (f := (Bi 2)) rfl (i) rfl (by omega) (by decide) dX3_payNamedBills_89 ?_
              refine lv_iload_n hx hb dX3_payNamedBills_90 rfl (lv_at hl 4 rfl) ?_
              refine lv_icmp_ne (tgt := 118) hx hb dX3_payNamedBills_91 (by decide) (fun c91 => ?_) (fun c91 => ?_)
              · -- 91 taken
                have hg2 : namS B R rc rf n td = namL rc rf cv td (n - (i + 1)) (i + 1) Bi Ri := by rw [hg, namL, if_neg c64, if_neg (fun z => c91 z.2)]
                refine lv_iinc (v := nI (i + 1)) (lv' := [(4, .int (nI (i + 1))), (3, .int (cv)), (0, .ref (a 0)), (1, .int (nI (rc))), (2, .int (rf))]) hx hb dX3_payNamedBills_118 hl (k := 0) rfl (nI_1 _) (by decide) rfl (fun ls hl => ?_)
                refine lv_goto (tgt := 43) hx hb dX3_payNamedBills_121 (by decide) ?_
                exact ih43 (i + 1) (Bi) (Ri) (by omega) hBi hg2 (by omega) _ _ hP hD hS _ (lv_sub hl [0, 1, 2, 3, 4] rfl)
              · -- 91 on
                refine lv_aload_n hx hb dX3_payNamedBills_94 rfl (lv_at hl 2 rfl) ?_
                refine lv_iload_n hx hb dX3_payNamedBills_95 rfl (lv_at hl 3 rfl) ?_
                refine lv_iload hx hb dX3_payNamedBills_96 (lv_at hl 0 rfl) ?_
                refine zcVi (ci := 3) (q0 := 0) (wf := (fun (u : (Nat → Nat → Int32) × (Nat → Nat → Int32)) => (wCA a cI cZ (u.1) (u.2) E (td)))) (List.range 26) ⟨hx, hb, hml, hown, hts⟩ (zwAll 26 (by decide) rfl hP hD hS hA) hK (c_X3_payBill l D cI cZ a H.size (Bi) (Ri) (E) (td) (rc) (i) (by first | assumption | omega) (by first | assumption | omega)) (cwV 2 hts gX3_payNamedBills_X3_payBill rfl rfl rfl (by decide +kernel) ⟨Nat.le_of_ble_eq_true rfl, Nat.le_of_ble_eq_true rfl⟩) rfl rfl (by decide) (fun _ => rfl) rfl hl.1 rfl (Nat.le_of_ble_eq_true rfl) dX3_payNamedBills_98 ⟨Nat.le_of_ble_eq_true rfl, Nat.le_of_ble_eq_true rfl⟩ (fun r98 u H locs hw hP hD hS => ?_)
                obtain ⟨rfl, rfl⟩ := hw
                have hP : va_P D vwCl (wCA a cI cZ (payB (Bi) (Ri) (rc) (i) (td)) (payR (Bi) (Ri) (rc) (i) (td)) E (td)) H := hP
                have hD : va_D A (wCA a cI cZ (payB (Bi) (Ri) (rc) (i) (td)) (payR (Bi) (Ri) (rc) (i) (td)) E (td)) := hD
                refine lv_istore (lv' := [(5, .int (b2 (¬ (Ri) 3 (rc) < dueN (Bi) (i) (td)))), (4, .int (nI (i))), (3, .int (cv)), (0, .ref (a 0)), (1, .int (nI (rc))), (2, .int (rf))]) hx hb dX3_payNamedBills_101 hl (by decide) rfl (fun ls hl => ?_)
                refine lv_iload hx hb dX3_payNamedBills_103 (lv_at hl 0 rfl) ?_
                refine lv_if_ne (tgt := 118) hx hb dX3_payNamedBills_105 (by decide) (fun c105 => ?_) (fun c105 => ?_)
                · -- 105 taken
                  have c105 := b2_1 c105
                  have hg2 : namS B R rc rf n td = namL rc rf cv td (n - (i + 1)) (i + 1) (payB Bi Ri rc i td) (payR Bi Ri rc i td) := by rw [hg, namL, if_neg c64, if_pos ⟨c77, c91⟩, if_pos c105]
                  refine lv_iinc (v := nI (i + 1)) (lv' := [(4, .int (nI (i + 1))), (5, .int (b2 (¬ (Ri) 3 (rc) < dueN (Bi) (i) (td)))), (3, .int (cv)), (0, .ref (a 0)), (1, .int (nI (rc))), (2, .int (rf))]) hx hb dX3_payNamedBills_118 hl (k := 1) rfl (nI_1 _) (by decide) rfl (fun ls hl => ?_)
                  refine lv_goto (tgt := 43) hx hb dX3_payNamedBills_121 (by decide) ?_
                  exact ih43 (i + 1) ((payB (Bi) (Ri) (rc) (i) (td))) ((payR (Bi) (Ri) (rc) (i) (td))) (by omega) (by rw [payB_n]; exact hBi) hg2 (by omega) _ _ hP hD hS _ (lv_sub hl [0, 2, 3, 4, 5] rfl)
                · -- 105 on
                  have c105 := b2_0 c105
                  have hg2 : namS B R rc rf n td = namL rc rf cv td (n - (i + 1)) (i + 1) (dsp (payB Bi Ri rc i td) i (nI rc)) (payR Bi Ri rc i td) := by rw [hg, namL, if_neg c64, if_pos ⟨c77, c91⟩, if_neg c105]
                  refine lv_aload_n hx hb dX3_payNamedBills_108 rfl (lv_at hl 3 rfl) ?_
                  refine va_get (D := D) (ci := 3) (v := .ref (a 1)) (C := RX3) (T := TX3) (N := 4) hx hb hts (fun w h => List.mem_cons_of_mem _ (List.mem_append_left _ (List.mem_append_left _ (List.mem_append_right _ h)))) hown hK hP 0 rfl rfl 0 (by decide) (hts (.fieldLink RX3 10 "CashAllocator" "billBook" "LCashAllocator$BillBook;") (by decide +kernel)) (fun _ h9 => h9) rfl dX3_payNamedBills_109 ?_
                  refine lv_iload hx hb dX3_payNamedBills_112 (lv_at hl 1 rfl) ?_
                  refine lv_iload_n hx hb dX3_payNamedBills_114 rfl (lv_at hl 4 rfl) ?_
                  refine zcVv (ci := 0) (q0 := 0) (wf := (fun (u : Nat → Nat → Int32) => (wCA a cI cZ u (payR (Bi) (Ri) (rc) (i) (td)) E (td)))) ksBB ⟨hx, hb, hml, hown, hts⟩ (zwBB hP hD hS hA) hK (c_X0_disputeRest l D cI cZ a H.size ((payB (Bi) (Ri) (rc) (i) (td))) (i) (nI (rc)) (by first | assumption | omega)) (cwV 2 hts gX3_payNamedBills_X0_disputeRest rfl rfl rfl (by decide +kernel) ⟨Nat.le_of_ble_eq_true rfl, Nat.le_of_ble_eq_true rfl⟩) rfl rfl (by decide) (fun _ => zkBB _) rfl hl.1 rfl (Nat.le_of_ble_eq_true rfl) dX3_payNamedBills_115 ⟨Nat.le_of_ble_eq_true rfl, Nat.le_of_ble_eq_true rfl⟩ (fun u H locs hw hP hD hS => ?_)
                  subst hw
                  have hP : va_P D vwCl (wCA a cI cZ (dsp ((payB (Bi) (Ri) (rc) (i) (td))) (i) (nI (rc))) (payR (Bi) (Ri) (rc) (i) (td)) E (td)) H := hP
                  have hD : va_D A (wCA a cI cZ (dsp ((payB (Bi) (Ri) (rc) (i) (td))) (i) (nI (rc))) (payR (Bi) (Ri) (rc) (i) (td)) E (td)) := hD
                  refine lv_iinc (v := nI (i + 1)) (lv' := [(4, .int (nI (i + 1))), (5, .int (b2 (¬ (Ri) 3 (rc) < dueN (Bi) (i) (td)))), (3, .int (cv)), (0, .ref (a 0)), (1, .int (nI (rc))), (2, .int (rf))]) hx hb dX3_payNamedBills_118 hl (k := 1) rfl (nI_1 _) (by decide) rfl (fun ls hl => ?_)
                  refine lv_goto (tgt := 43) hx hb dX3_payNamedBills_121 (by decide) ?_
                  exact ih43 (i + 1) ((dsp ((payB (Bi) (Ri) (rc) (i) (td))) (i) (nI (rc)))) ((payR (Bi) (Ri) (rc) (i) (td))) (by omega) (by rw [dsp_n, payB_n]; exact hBi) hg2 (by omega) _ _ hP hD hS _ (lv_sub hl [0, 2, 3, 4, 5] rfl)
    rw [← hcv] at hl
    exact loop43 _ (0) (B) (R1) (Nat.zero_le _) (hB) (hst) (Nat.lt_succ_self _) _ _ hP hD hS _ (lv_sub hl [0, 1, 2, 3, 4] rfl)
  · -- 10 on
    refine lv_aload_n hx hb dX3_payNamedBills_13 rfl (lv_at hl 0 rfl) ?_
    refine va_get (D := D) (ci := 3) (v := .ref (a 13)) (C := RX3) (T := TX3) (N := 4) hx hb hts (fun w h => List.mem_cons_of_mem _ (List.mem_append_left _ (List.mem_append_left _ (List.mem_append_right _ h)))) hown hK hP 0 rfl rfl 1 (by decide) (hts (.fieldLink RX3 19 "CashAllocator" "receiptBook" "LCashAllocator$ReceiptBook;") (by decide +kernel)) (fun _ h9 => h9) rfl dX3_payNamedBills_14 ?_
    refine va_get (D := D) (ci := 2) (v := .ref (a 14)) (C := RX2) (T := TX2) (N := 9) hx hb hts (fun w h => List.mem_cons_of_mem _ (List.mem_append_left _ (List.mem_append_right _ h))) hown hK hP 13 rfl rfl 0 (by decide) (hts (.fieldLink RX3 79 "CashAllocator$ReceiptBook" "customer" "[I") (by decide +kernel)) (fun _ h9 => h9) rfl dX3_payNamedBills_17 ?_
    refine lv_iload_n hx hb dX3_payNamedBills_20 rfl (lv_at hl 1 rfl) ?_
    refine lv_aload_n hx hb dX3_payNamedBills_21 rfl (lv_at hl 0 rfl) ?_
    refine va_get (D := D) (ci := 3) (v := .ref (a 1)) (C := RX3) (T := TX3) (N := 4) hx hb hts (fun w h => List.mem_cons_of_mem _ (List.mem_append_left _ (List.mem_append_left _ (List.mem_append_right _ h)))) hown hK hP 0 rfl rfl 0 (by decide) (hts (.fieldLink RX3 10 "CashAllocator" "billBook" "LCashAllocator$BillBook;") (by decide +kernel)) (fun _ h9 => h9) rfl dX3_payNamedBills_22 ?_
    refine lv_iload_n hx hb dX3_payNamedBills_25 rfl (lv_at hl 2 rfl) ?_
    refine zcVi (ci := 0) (q0 := 0) (wf := (fun (u : Unit) => (wCA a cI cZ B R E (td)))) ksBB ⟨hx, hb, hml, hown, hts⟩ (zwBB hP hD hS hA) hK (c_X0_customerNamedBy l D cI cZ a H.size (B) (rf) (n) (by first | assumption | omega) (by first | assumption | omega)) (cwV 1 hts gX3_payNamedBills_X0_customerNamedBy rfl rfl rfl (by decide +kernel) ⟨Nat.le_of_ble_eq_true rfl, Nat.le_of_ble_eq_true rfl⟩) rfl rfl (by decide) (fun _ => zkBB _) rfl hl.1 rfl (Nat.le_of_ble_eq_true rfl) dX3_payNamedBills_26 ⟨Nat.le_of_ble_eq_true rfl, Nat.le_of_ble_eq_true rfl⟩ (fun r26 u H locs hw hP hD hS => ?_)
    subst hw
    refine zast hx hb hK hP hD hS 14 (n := 30) (f := (R 0)) rfl (rc) rfl (by omega) (by decide) (wCA a cI cZ B (pt R 0 (rc) (nmd (B) (rf) n 0)) E (td)) rfl dX3_payNamedBills_29 (fun H locs hP hD hS => ?_)
    obtain ⟨R1, hR1⟩ : ∃ z, z = (pt R 0 (rc) (nmd (B) (rf) n 0)) := ⟨_, rfl⟩
    rw [← hR1] at hP hD
    obtain ⟨cv, hcv⟩ : ∃ z, z = R1 0 rc := ⟨_, rfl⟩
    have hst : namS B R rc rf n td = namL rc rf cv td (n - 0) 0 B R1 := by rw [hcv, hR1]; unfold namS; first | (rw [if_pos c10]; rfl) | (rw [if_neg c10]; rfl)
    refine lv_aload_n hx hb dX3_payNamedBills_30 rfl (lv_at hl 0 rfl) ?_
    refine va_get (D := D) (ci := 3) (v := .ref (a 13)) (C := RX3) (T := TX3) (N := 4) hx hb hts (fun w h => List.mem_cons_of_mem _ (List.mem_append_left _ (List.mem_append_left _ (List.mem_append_right _ h)))) hown hK hP 0 rfl rfl 1 (by decide) (hts (.fieldLink RX3 19 "CashAllocator" "receiptBook" "LCashAllocator$ReceiptBook;") (by decide +kernel)) (fun _ h9 => h9) rfl dX3_payNamedBills_31 ?_
    refine va_get (D := D) (ci := 2) (v := .ref (a 14)) (C := RX2) (T := TX2) (N := 9) hx hb hts (fun w h => List.mem_cons_of_mem _ (List.mem_append_left _ (List.mem_append_right _ h))) hown hK hP 13 rfl rfl 0 (by decide) (hts (.fieldLink RX3 79 "CashAllocator$ReceiptBook" "customer" "[I") (by decide +kernel)) (fun _ h9 => h9) rfl dX3_payNamedBills_34 ?_
    refine lv_iload_n hx hb dX3_payNamedBills_37 rfl (lv_at hl 1 rfl) ?_
    refine zald hx hb hK hP 14 (n := 30) (f := (R1 0)) rfl (rc) rfl (by omega) (by decide) dX3_payNamedBills_38 ?_
    refine lv_istore_n (lv' := [(3, .int (R1 0 (rc))), (0, .ref (a 0)), (1, .int (nI (rc))), (2, .int (rf))]) hx hb dX3_payNamedBills_39 rfl hl (by decide) rfl (fun ls hl => ?_)
    refine lv_iconst (v := nI (0)) hx hb dX3_payNamedBills_40 (by decide) ?_
    refine lv_istore (lv' := [(4, .int (nI (0))), (3, .int (R1 0 (rc))), (0, .ref (a 0)), (1, .int (nI (rc))), (2, .int (rf))]) hx hb dX3_payNamedBills_41 hl (by decide) rfl (fun ls hl => ?_)
    have loop43 : ∀ (fu : Nat) (i : Nat) (Bi : Nat → Nat → Int32) (Ri : Nat → Nat → Int32) (hin : i ≤ n) (hBi : Bi 11 0 = nI n) (hg : namS B R rc rf n td = namL rc rf cv td (n - i) i Bi Ri) (hfu : n - i < fu) (H : Heap) (locs : List Loc) (hP : va_P D vwCl (wCA a cI cZ Bi Ri E (td)) H) (hD : va_D A (wCA a cI cZ Bi Ri E (td))) (hS : va_S A s.heap H locs) (ls : Array Slot) (hl : lv_has ls 6 [(4, .int (nI (i))), (3, .int (cv)), (0, .ref (a 0)), (1, .int (nI (rc))), (2, .int (rf))]), W p l e (headSpec wsX3_payNamedBills ({ frames := 4, cells := 0, slots := 0, locals := 92 } : Room)).room s m ([.ref (a 0), .int (nI (rc)), .int (rf)] : List Value).toArray below meth c H locs 0 0 (MQ below (va_Qv (fun (u : (Nat → Nat → Int32) × (Nat → Nat → Int32)) => u = namS B R rc rf n td) (fun (u : (Nat → Nat → Int32) × (Nat → Nat → Int32)) => PostW D cI cZ A (wCA a cI cZ (u.1) (u.2) E (td))) A) ([.ref (a 0), .int (nI (rc)), .int (rf)] : List Value).toArray s 0 0 A) (F0 m 43 ls []) := by
      clear hP hD hS hl
      intro fu43
      induction fu43 with
      | zero => intro i Bi Ri hin hBi hg hfu; exact absurd hfu (Nat.not_lt_zero _)
      | succ fu43 ih43 =>
        intro i Bi Ri hin hBi hg hfu H locs hP hD hS ls hl
        refine lv_iload hx hb dX3_payNamedBills_43 (lv_at hl 0 rfl) ?_
        refine lv_aload_n hx hb dX3_payNamedBills_45 rfl (lv_at hl 2 rfl) ?_
        refine va_get (D := D) (ci := 3) (v := .ref (a 1)) (C := RX3) (T := TX3) (N := 4) hx hb hts (fun w h => List.mem_cons_of_mem _ (List.mem_append_left _ (List.mem_append_left _ (List.mem_append_right _ h)))) hown hK hP 0 rfl rfl 0 (by decide) (hts (.fieldLink RX3 10 "CashAllocator" "billBook" "LCashAllocator$BillBook;") (by decide +kernel)) (fun _ h9 => h9) rfl dX3_payNamedBills_46 ?_
        refine va_get (D := D) (ci := 0) (v := .int (nI (n))) (C := RX0) (T := TX0) (N := 12) hx hb hts (fun w h => List.mem_cons_of_mem _ (List.mem_append_right _ h)) hown hK hP 1 rfl rfl 11 (by decide) (hts (.fieldLink RX3 43 "CashAllocator$BillBook" "count" "I") (by decide +kernel)) (fun _ h9 => h9) (congrArg (fun z => some (Value.int z)) hBi) dX3_payNamedBills_49 ?_
        refine lv_icmp_ge (tgt := 124) hx hb dX3_payNamedBills_52 (by decide) (fun c52 => ?_) (fun c52 => ?_)
        · -- 52 taken
          rw [nI_leI (by omega) (by omega)] at c52
          have hfin : (Bi, Ri) = namS B R rc rf n td := by rw [hg, show n - i = 0 by omega]; rfl
          exact W.vret hx hb hr (fun t ht hW => ⟨⟨(Bi, Ri), rfl, hfin, by rw [ht]; exact hP, va_K.moved hW.alike hK, hD⟩, hS.F ht⟩) hS.2.2 dX3_payNamedBills_124
        · -- 52 on
          rw [nI_leI (by omega) (by omega)] at c52
          have c52 : i < n := by omega
          have hk : n - i = (n - (i + 1)) + 1 := by omega
          rw [hk] at hg
          refine lv_aload_n hx hb dX3_payNamedBills_55 rfl (lv_at hl 2 rfl) ?_
          refine va_get (D := D) (ci := 3) (v := .ref (a 13)) (C := RX3) (T := TX3) (N := 4) hx hb hts (fun w h => List.mem_cons_of_mem _ (List.mem_append_left _ (List.mem_append_left _ (List.mem_append_right _ h)))) hown hK hP 0 rfl rfl 1 (by decide) (hts (.fieldLink RX3 19 "CashAllocator" "receiptBook" "LCashAllocator$ReceiptBook;") (by decide +kernel)) (fun _ h9 => h9) rfl dX3_payNamedBills_56 ?_
          refine va_get (D := D) (ci := 2) (v := .ref (a 17)) (C := RX2) (T := TX2) (N := 9) hx hb hts (fun w h => List.mem_cons_of_mem _ (List.mem_append_left _ (List.mem_append_right _ h))) hown hK hP 13 rfl rfl 3 (by decide) (hts (.fieldLink RX3 85 "CashAllocator$ReceiptBook" "unapplied" "[I") (by decide +kernel)) (fun _ h9 => h9) rfl dX3_payNamedBills_59 ?_
          refine lv_iload_n hx hb dX3_payNamedBills_62 rfl (lv_at hl 3 rfl) ?_
          refine zald hx hb hK hP 17 (n := 30) (f := (Ri 3)) rfl (rc) rfl (by omega) (by decide) dX3_payNamedBills_63 ?_
          refine lv_if_le (tgt := 124) hx hb dX3_payNamedBills_64 (by decide) (fun c64 => ?_) (fun c64 => ?_)
          · -- 64 taken
            have hfin : (Bi, Ri) = namS B R rc rf n td := by rw [hg, namL, if_pos c64]
            exact W.vret hx hb hr (fun t ht hW => ⟨⟨(Bi, Ri), rfl, hfin, by rw [ht]; exact hP, va_K.moved hW.alike hK, hD⟩, hS.F ht⟩) hS.2.2 dX3_payNamedBills_124
          · -- 64 on
            refine lv_aload_n hx hb dX3_payNamedBills_67 rfl (lv_at hl 2 rfl) ?_
            refine va_get (D := D) (ci := 3) (v := .ref (a 1)) (C := RX3) (T := TX3) (N := 4) hx hb hts (fun w h => List.mem_cons_of_mem _ (List.mem_append_left _ (List.mem_append_left _ (List.mem_append_right _ h)))) hown hK hP 0 rfl rfl 0 (by decide) (hts (.fieldLink RX3 10 "CashAllocator" "billBook" "LCashAllocator$BillBook;") (by decide +kernel)) (fun _ h9 => h9) rfl dX3_payNamedBills_68 ?_
            refine lv_iload hx hb dX3_payNamedBills_71 (lv_at hl 0 rfl) ?_
            refine lv_iload_n hx hb dX3_payNamedBills_73 rfl (lv_at hl 1 rfl) ?_
            refine zcVi (ci := 0) (q0 := 0) (wf := (fun (u : Unit) => (wCA a cI cZ Bi Ri E (td)))) ksBB ⟨hx, hb, hml, hown, hts⟩ (zwBB hP hD hS hA) hK (c_X0_isOpenFor l D cI cZ a H.size (Bi) (i) (cv) (by first | assumption | omega)) (cwV 2 hts gX3_payNamedBills_X0_isOpenFor rfl rfl rfl (by decide +kernel) ⟨Nat.le_of_ble_eq_true rfl, Nat.le_of_ble_eq_true rfl⟩) rfl rfl (by decide) (fun _ => zkBB _) rfl hl.1 rfl (Nat.le_of_ble_eq_true rfl) dX3_payNamedBills_74 ⟨Nat.le_of_ble_eq_true rfl, Nat.le_of_ble_eq_true rfl⟩ (fun r74 u H locs hw hP hD hS => ?_)
            subst hw
            refine lv_if_eq (tgt := 118) hx hb dX3_payNamedBills_77 (by decide) (fun c77 => ?_) (fun c77 => ?_)
            · -- 77 taken
              have c77 := b2_0 c77
              have hg2 : namS B R rc rf n td = namL rc rf cv td (n - (i + 1)) (i + 1) Bi Ri := by rw [hg, namL, if_neg c64, if_neg (fun z => c77 z.1)]
              refine lv_iinc (v := nI (i + 1)) (lv' := [(4, .int (nI (i + 1))), (3, .int (cv)), (0, .ref (a 0)), (1, .int (nI (rc))), (2, .int (rf))]) hx hb dX3_payNamedBills_118 hl (k := 0) rfl (nI_1 _) (by decide) rfl (fun ls hl => ?_)
              refine lv_goto (tgt := 43) hx hb dX3_payNamedBills_121 (by decide) ?_
              exact ih43 (i + 1) (Bi) (Ri) (by omega) hBi hg2 (by omega) _ _ hP hD hS _ (lv_sub hl [0, 1, 2, 3, 4] rfl)
            · -- 77 on
              have c77 := b2_1 c77
              refine lv_aload_n hx hb dX3_payNamedBills_80 rfl (lv_at hl 2 rfl) ?_
              refine va_get (D := D) (ci := 3) (v := .ref (a 1)) (C := RX3) (T := TX3) (N := 4) hx hb hts (fun w h => List.mem_cons_of_mem _ (List.mem_append_left _ (List.mem_append_left _ (List.mem_append_right _ h)))) hown hK hP 0 rfl rfl 0 (by decide) (hts (.fieldLink RX3 10 "CashAllocator" "billBook" "LCashAllocator$BillBook;") (by decide +kernel)) (fun _ h9 => h9) rfl dX3_payNamedBills_81 ?_
              refine va_get (D := D) (ci := 0) (v := .ref (a 4)) (C := RX0) (T := TX0) (N := 12) hx hb hts (fun w h => List.mem_cons_of_mem _ (List.mem_append_right _ h)) hown hK hP 1 rfl rfl 2 (by decide) (hts (.fieldLink RX3 185 "CashAllocator$BillBook" "reference" "[I") (by decide +kernel)) (fun _ h9 => h9) rfl dX3_payNamedBills_84 ?_
              refine lv_iload hx hb dX3_payNamedBills_87 (lv_at hl 0 rfl) ?_
              refine zald hx hb hK hP 4 (n := 40) (f := (Bi 2)) rfl (i) rfl (by omega) (by decide) dX3_payNamedBills_89 ?_
              refine lv_iload_n hx hb dX3_payNamedBills_90 rfl (lv_at hl 4 rfl) ?_
              refine lv_icmp_ne (tgt := 118) hx hb dX3_payNamedBills_91 (by decide) (fun c91 => ?_) (fun c91 => ?_)
              · -- 91 taken
                have hg2 : namS B R rc rf n td = namL rc rf cv td (n - (i + 1)) (i + 1) Bi Ri := by rw [hg, namL, if_neg c64, if_neg (fun z => c91 z.2)]
                refine lv_iinc (v := nI (i + 1)) (lv' := [(4, .int (nI (i + 1))), (3, .int (cv)), (0, .ref (a 0)), (1, .int (nI (rc))), (2, .int (rf))]) hx hb dX3_payNamedBills_118 hl (k := 0) rfl (nI_1 _) (by decide) rfl (fun ls hl => ?_)
                refine lv_goto (tgt := 43) hx hb dX3_payNamedBills_121 (by decide) ?_
                exact ih43 (i + 1) (Bi) (Ri) (by omega) hBi hg2 (by omega) _ _ hP hD hS _ (lv_sub hl [0, 1, 2, 3, 4] rfl)
              · -- 91 on
                refine lv_aload_n hx hb dX3_payNamedBills_94 rfl (lv_at hl 2 rfl) ?_
                refine lv_iload_n hx hb dX3_payNamedBills_95 rfl (lv_at hl 3 rfl) ?_
                refine lv_iload hx hb dX3_payNamedBills_96 (lv_at hl 0 rfl) ?_
                refine zcVi (ci := 3) (q0 := 0) (wf := (fun (u : (Nat → Nat → Int32) × (Nat → Nat → Int32)) => (wCA a cI cZ (u.1) (u.2) E (td)))) (List.range 26) ⟨hx, hb, hml, hown, hts⟩ (zwAll 26 (by decide) rfl hP hD hS hA) hK (c_X3_payBill l D cI cZ a H.size (Bi) (Ri) (E) (td) (rc) (i) (by first | assumption | omega) (by first | assumption | omega)) (cwV 2 hts gX3_payNamedBills_X3_payBill rfl rfl rfl (by decide +kernel) ⟨Nat.le_of_ble_eq_true rfl, Nat.le_of_ble_eq_true rfl⟩) rfl rfl (by decide) (fun _ => rfl) rfl hl.1 rfl (Nat.le_of_ble_eq_true rfl) dX3_payNamedBills_98 ⟨Nat.le_of_ble_eq_true rfl, Nat.le_of_ble_eq_true rfl⟩ (fun r98 u H locs hw hP hD hS => ?_)
                obtain ⟨rfl, rfl⟩ := hw
                have hP : va_P D vwCl (wCA a cI cZ (payB (Bi) (Ri) (rc) (i) (td)) (payR (Bi) (Ri) (rc) (i) (td)) E (td)) H := hP
                have hD : va_D A (wCA a cI cZ (payB (Bi) (Ri) (rc) (i) (td)) (payR (Bi) (Ri) (rc) (i) (td)) E (td)) := hD
                refine lv_istore (lv' := [(5, .int (b2 (¬ (Ri) 3 (rc) < dueN (Bi) (i) (td)))), (4, .int (nI (i))), (3, .int (cv)), (0, .ref (a 0)), (1, .int (nI (rc))), (2, .int (rf))]) hx hb dX3_payNamedBills_101 hl (by decide) rfl (fun ls hl => ?_)
                refine lv_iload hx hb dX3_payNamedBills_103 (lv_at hl 0 rfl) ?_
                refine lv_if_ne (tgt := 118) hx hb dX3_payNamedBills_105 (by decide) (fun c105 => ?_) (fun c105 => ?_)
                · -- 105 taken
                  have c105 := b2_1 c105
                  have hg2 : namS B R rc rf n td = namL rc rf cv td (n - (i + 1)) (i + 1) (payB Bi Ri rc i td) (payR Bi Ri rc i td) := by rw [hg, namL, if_neg c64, if_pos ⟨c77, c91⟩, if_pos c105]
                  refine lv_iinc (v := nI (i + 1)) (lv' := [(4, .int (nI (i + 1))), (5, .int (b2 (¬ (Ri) 3 (rc) < dueN (Bi) (i) (td)))), (3, .int (cv)), (0, .ref (a 0)), (1, .int (nI (rc))), (2, .int (rf))]) hx hb dX3_payNamedBills_118 hl (k := 1) rfl (nI_1 _) (by decide) rfl (fun ls hl => ?_)
                  refine lv_goto (tgt := 43) hx hb dX3_payNamedBills_121 (by decide) ?_
                  exact ih43 (i + 1) ((payB (Bi) (Ri) (rc) (i) (td))) ((payR (Bi) (Ri) (rc) (i) (td))) (by omega) (by rw [payB_n]; exact hBi) hg2 (by omega) _ _ hP hD hS _ (lv_sub hl [0, 2, 3, 4, 5] rfl)
                · -- 105 on
                  have c105 := b2_0 c105
                  have hg2 : namS B R rc rf n td = namL rc rf cv td (n - (i + 1)) (i + 1) (dsp (payB Bi Ri rc i td) i (nI rc)) (payR Bi Ri rc i td) := by rw [hg, namL, if_neg c64, if_pos ⟨c77, c91⟩, if_neg c105]
                  refine lv_aload_n hx hb dX3_payNamedBills_108 rfl (lv_at hl 3 rfl) ?_
                  refine va_get (D := D) (ci := 3) (v := .ref (a 1)) (C := RX3) (T := TX3) (N := 4) hx hb hts (fun w h => List.mem_cons_of_mem _ (List.mem_append_left _ (List.mem_append_left _ (List.mem_append_right _ h)))) hown hK hP 0 rfl rfl 0 (by decide) (hts (.fieldLink RX3 10 "CashAllocator" "billBook" "LCashAllocator$BillBook;") (by decide +kernel)) (fun _ h9 => h9) rfl dX3_payNamedBills_109 ?_
                  refine lv_iload hx hb dX3_payNamedBills_112 (lv_at hl 1 rfl) ?_
                  refine lv_iload_n hx hb dX3_payNamedBills_114 rfl (lv_at hl 4 rfl) ?_
                  refine zcVv (ci := 0) (q0 := 0) (wf := (fun (u : Nat → Nat → Int32) => (wCA a cI cZ u (payR (Bi) (Ri) (rc) (i) (td)) E (td)))) ksBB ⟨hx, hb, hml, hown, hts⟩ (zwBB hP hD hS hA) hK (c_X0_disputeRest l D cI cZ a H.size ((payB (Bi) (Ri) (rc) (i) (td))) (i) (nI (rc)) (by first | assumption | omega)) (cwV 2 hts gX3_payNamedBills_X0_disputeRest rfl rfl rfl (by decide +kernel) ⟨Nat.le_of_ble_eq_true rfl, Nat.le_of_ble_eq_true rfl⟩) rfl rfl (by decide) (fun _ => zkBB _) rfl hl.1 rfl (Nat.le_of_ble_eq_true rfl) dX3_payNamedBills_115 ⟨Nat.le_of_ble_eq_true rfl, Nat.le_of_ble_eq_true rfl⟩ (fun u H locs hw hP hD hS => ?_)
                  subst hw
                  have hP : va_P D vwCl (wCA a cI cZ (dsp ((payB (Bi) (Ri) (rc) (i) (td))) (i) (nI (rc))) (payR (Bi) (Ri) (rc) (i) (td)) E (td)) H := hP
                  have hD : va_D A (wCA a cI cZ (dsp ((payB (Bi) (Ri) (rc) (i) (td))) (i) (nI (rc))) (payR (Bi) (Ri) (rc) (i) (td)) E (td)) := hD
                  refine lv_iinc (v := nI (i + 1)) (lv' := [(4, .int (nI (i + 1))), (5, .int (b2 (¬ (Ri) 3 (rc) < dueN (Bi) (i) (td)))), (3, .int (cv)), (0, .ref (a 0)), (1, .int (nI (rc))), (2, .int (rf))]) hx hb dX3_payNamedBills_118 hl (k := 1) rfl (nI_1 _) (by decide) rfl (fun ls hl => ?_)
                  refine lv_goto (tgt := 43) hx hb dX3_payNamedBills_121 (by decide) ?_
                  exact ih43 (i + 1) ((dsp ((payB (Bi) (Ri) (rc) (i) (td))) (i) (nI (rc)))) ((payR (Bi) (Ri) (rc) (i) (td))) (by omega) (by rw [dsp_n, payB_n]; exact hBi) hg2 (by omega) _ _ hP hD hS _ (lv_sub hl [0, 2, 3, 4, 5] rfl)
    rw [← hcv] at hl
    exact loop43 _ (0) (B) (R1) (Nat.zero_le _) (hB) (hst) (Nat.lt_succ_self _) _ _ hP hD hS _ (lv_sub hl [0, 1, 2, 3, 4] rfl)
