theorem dX4_init_0 : decode cX4_init 0 = .ok (.aload_n 0, 1) := by decide +kernel
theorem dX4_init_1 : decode cX4_init 1 = .ok (.invokespecial 1, 3) := by decide +kernel
theorem dX4_init_4 : decode cX4_init 4 = .ok (.aload_n 0, 1) := by decide +kernel
theorem dX4_init_5 : decode cX4_init 5 = .ok (.bipush 40, 2) := by decide +kernel
theorem dX4_init_7 : decode cX4_init 7 = .ok (.newarray .int, 2) := by decide +kernel
theorem dX4_init_9 : decode cX4_init 9 = .ok (.putfield 7, 3) := by decide +kernel
theorem dX4_init_12 : decode cX4_init 12 = .ok (.aload_n 0, 1) := by decide +kernel
theorem dX4_init_13 : decode cX4_init 13 = .ok (.bipush 40, 2) := by decide +kernel
theorem dX4_init_15 : decode cX4_init 15 = .ok (.newarray .int, 2) := by decide +kernel
theorem dX4_init_17 : decode cX4_init 17 = .ok (.putfield 13, 3) := by decide +kernel
theorem dX4_init_20 : decode cX4_init 20 = .ok (.aload_n 0, 1) := by decide +kernel
theorem dX4_init_21 : decode cX4_init 21 = .ok (.bipush 40, 2) := by decide +kernel
theorem dX4_init_23 : decode cX4_init 23 = .ok (.newarray .int, 2) := by decide +kernel
theorem dX4_init_25 : decode cX4_init 25 = .ok (.putfield 16, 3) := by decide +kernel
theorem dX4_init_28 : decode cX4_init 28 = .ok (.aload_n 0, 1) := by decide +kernel
theorem dX4_init_29 : decode cX4_init 29 = .ok (.bipush 40, 2) := by decide +kernel
theorem dX4_init_31 : decode cX4_init 31 = .ok (.newarray .int, 2) := by decide +kernel
theorem dX4_init_33 : decode cX4_init 33 = .ok (.putfield 19, 3) := by decide +kernel
theorem dX4_init_36 : decode cX4_init 36 = .ok (.aload_n 0, 1) := by decide +kernel
theorem dX4_init_37 : decode cX4_init 37 = .ok (.bipush 40, 2) := by decide +kernel
theorem dX4_init_39 : decode cX4_init 39 = .ok (.newarray .int, 2) := by decide +kernel
theorem dX4_init_41 : decode cX4_init 41 = .ok (.putfield 22, 3) := by decide +kernel
theorem dX4_init_44 : decode cX4_init 44 = .ok (.aload_n 0, 1) := by decide +kernel
theorem dX4_init_45 : decode cX4_init 45 = .ok (.bipush 40, 2) := by decide +kernel
theorem dX4_init_47 : decode cX4_init 47 = .ok (.newarray .int, 2) := by decide +kernel
theorem dX4_init_49 : decode cX4_init 49 = .ok (.putfield 25, 3) := by decide +kernel
theorem dX4_init_52 : decode cX4_init 52 = .ok (.aload_n 0, 1) := by decide +kernel
theorem dX4_init_53 : decode cX4_init 53 = .ok (.bipush 40, 2) := by decide +kernel
theorem dX4_init_55 : decode cX4_init 55 = .ok (.newarray .int, 2) := by decide +kernel
theorem dX4_init_57 : decode cX4_init 57 = .ok (.putfield 28, 3) := by decide +kernel
theorem dX4_init_60 : decode cX4_init 60 = .ok (.aload_n 0, 1) := by decide +kernel
theorem dX4_init_61 : decode cX4_init 61 = .ok (.bipush 40, 2) := by decide +kernel
theorem dX4_init_63 : decode cX4_init 63 = .ok (.newarray .int, 2) := by decide +kernel
theorem dX4_init_65 : decode cX4_init 65 = .ok (.putfield 31, 3) := by decide +kernel
theorem dX4_init_68 : decode cX4_init 68 = .ok (.aload_n 0, 1) := by decide +kernel
theorem dX4_init_69 : decode cX4_init 69 = .ok (.bipush 40, 2) := by decide +kernel
theorem dX4_init_71 : decode cX4_init 71 = .ok (.newarray .int, 2) := by decide +kernel
theorem dX4_init_73 : decode cX4_init 73 = .ok (.putfield 34, 3) := by decide +kernel
theorem dX4_init_76 : decode cX4_init 76 = .ok (.aload_n 0, 1) := by decide +kernel
theorem dX4_init_77 : decode cX4_init 77 = .ok (.bipush 40, 2) := by decide +kernel
theorem dX4_init_79 : decode cX4_init 79 = .ok (.newarray .int, 2) := by decide +kernel
theorem dX4_init_81 : decode cX4_init 81 = .ok (.putfield 37, 3) := by decide +kernel
theorem dX4_init_84 : decode cX4_init 84 = .ok (.aload_n 0, 1) := by decide +kernel
theorem dX4_init_85 : decode cX4_init 85 = .ok (.bipush 40, 2) := by decide +kernel
theorem dX4_init_87 : decode cX4_init 87 = .ok (.newarray .int, 2) := by decide +kernel
theorem dX4_init_89 : decode cX4_init 89 = .ok (.putfield 40, 3) := by decide +kernel
theorem dX4_init_92 : decode cX4_init 92 = .ok (.aload_n 0, 1) := by decide +kernel
theorem dX4_init_93 : decode cX4_init 93 = .ok (.bipush 40, 2) := by decide +kernel
theorem dX4_init_95 : decode cX4_init 95 = .ok (.newarray .int, 2) := by decide +kernel
theorem dX4_init_97 : decode cX4_init 97 = .ok (.putfield 43, 3) := by decide +kernel
theorem dX4_init_100 : decode cX4_init 100 = .ok (.aload_n 0, 1) := by decide +kernel
theorem dX4_init_101 : decode cX4_init 101 = .ok (.bipush 30, 2) := by decide +kernel
theorem dX4_init_103 : decode cX4_init 103 = .ok (.newarray .int, 2) := by decide +kernel
theorem dX4_init_105 : decode cX4_init 105 = .ok (.putfield 46, 3) := by decide +kernel
theorem dX4_init_108 : decode cX4_init 108 = .ok (.aload_n 0, 1) := by decide +kernel
theorem dX4_init_109 : decode cX4_init 109 = .ok (.bipush 30, 2) := by decide +kernel
theorem dX4_init_111 : decode cX4_init 111 = .ok (.newarray .int, 2) := by decide +kernel
theorem dX4_init_113 : decode cX4_init 113 = .ok (.putfield 49, 3) := by decide +kernel
theorem dX4_init_116 : decode cX4_init 116 = .ok (.aload_n 0, 1) := by decide +kernel
theorem dX4_init_117 : decode cX4_init 117 = .ok (.bipush 30, 2) := by decide +kernel
theorem dX4_init_119 : decode cX4_init 119 = .ok (.newarray .int, 2) := by decide +kernel
theorem dX4_init_121 : decode cX4_init 121 = .ok (.putfield 52, 3) := by decide +kernel
theorem dX4_init_124 : decode cX4_init 124 = .ok (.aload_n 0, 1) := by decide +kernel
theorem dX4_init_125 : decode cX4_init 125 = .ok (.bipush 30, 2) := by decide +kernel
theorem dX4_init_127 : decode cX4_init 127 = .ok (.newarray .int, 2) := by decide +kernel
theorem dX4_init_129 : decode cX4_init 129 = .ok (.putfield 55, 3) := by decide +kernel
theorem dX4_init_132 : decode cX4_init 132 = .ok (.aload_n 0, 1) := by decide +kernel
theorem dX4_init_133 : decode cX4_init 133 = .ok (.bipush 30, 2) := by decide +kernel
theorem dX4_init_135 : decode cX4_init 135 = .ok (.newarray .boolean, 2) := by decide +kernel
theorem dX4_init_137 : decode cX4_init 137 = .ok (.putfield 58, 3) := by decide +kernel
theorem dX4_init_140 : decode cX4_init 140 = .ok (.aload_n 0, 1) := by decide +kernel
theorem dX4_init_141 : decode cX4_init 141 = .ok (.sipush 1200, 3) := by decide +kernel
theorem dX4_init_144 : decode cX4_init 144 = .ok (.newarray .int, 2) := by decide +kernel
theorem dX4_init_146 : decode cX4_init 146 = .ok (.putfield 62, 3) := by decide +kernel
theorem dX4_init_149 : decode cX4_init 149 = .ok (.aload_n 0, 1) := by decide +kernel
theorem dX4_init_150 : decode cX4_init 150 = .ok (.sipush 1200, 3) := by decide +kernel
theorem dX4_init_153 : decode cX4_init 153 = .ok (.newarray .boolean, 2) := by decide +kernel
theorem dX4_init_155 : decode cX4_init 155 = .ok (.putfield 65, 3) := by decide +kernel
theorem dX4_init_158 : decode cX4_init 158 = .ok (.aload_n 0, 1) := by decide +kernel
theorem dX4_init_159 : decode cX4_init 159 = .ok (.iconst 3, 1) := by decide +kernel
theorem dX4_init_160 : decode cX4_init 160 = .ok (.newarray .int, 2) := by decide +kernel
theorem dX4_init_162 : decode cX4_init 162 = .ok (.putfield 68, 3) := by decide +kernel
theorem dX4_init_165 : decode cX4_init 165 = .ok (.return_, 1) := by decide +kernel
theorem dX4_thrown_0 : decode cX4_thrown 0 = .ok (.aload_n 0, 1) := by decide +kernel
theorem dX4_thrown_1 : decode cX4_thrown 1 = .ok (.getfield 71, 3) := by decide +kernel
theorem dX4_thrown_4 : decode cX4_thrown 4 = .ok (.ireturn, 1) := by decide +kernel
theorem dX4_refused_0 : decode cX4_refused 0 = .ok (.aload_n 0, 1) := by decide +kernel
theorem dX4_refused_1 : decode cX4_refused 1 = .ok (.iload_n 1, 1) := by decide +kernel
theorem dX4_refused_2 : decode cX4_refused 2 = .ok (.putfield 71, 3) := by decide +kernel
theorem dX4_refused_5 : decode cX4_refused 5 = .ok (.iload_n 1, 1) := by decide +kernel
theorem dX4_refused_6 : decode cX4_refused 6 = .ok (.ifCond .eq 7, 3) := by decide +kernel
theorem dX4_refused_9 : decode cX4_refused 9 = .ok (.iconst 1, 1) := by decide +kernel
theorem dX4_refused_10 : decode cX4_refused 10 = .ok (.goto 4, 3) := by decide +kernel
theorem dX4_refused_13 : decode cX4_refused 13 = .ok (.iconst 0, 1) := by decide +kernel
theorem dX4_refused_14 : decode cX4_refused 14 = .ok (.ireturn, 1) := by decide +kernel
theorem dX4_fine_0 : decode cX4_fine 0 = .ok (.aload_n 0, 1) := by decide +kernel
theorem dX4_fine_1 : decode cX4_fine 1 = .ok (.iconst 0, 1) := by decide +kernel
theorem dX4_fine_2 : decode cX4_fine 2 = .ok (.putfield 71, 3) := by decide +kernel
theorem dX4_fine_5 : decode cX4_fine 5 = .ok (.iload_n 1, 1) := by decide +kernel
theorem dX4_fine_6 : decode cX4_fine 6 = .ok (.ireturn, 1) := by decide +kernel
theorem dX4_in_0 : decode cX4_in 0 = .ok (.iload_n 0, 1) := by decide +kernel
theorem dX4_in_1 : decode cX4_in 1 = .ok (.iload_n 1, 1) := by decide +kernel
theorem dX4_in_2 : decode cX4_in 2 = .ok (.if_icmp .lt 12, 3) := by decide +kernel
theorem dX4_in_5 : decode cX4_in 5 = .ok (.iload_n 0, 1) := by decide +kernel
theorem dX4_in_6 : decode cX4_in 6 = .ok (.iload_n 2, 1) := by decide +kernel
theorem dX4_in_7 : decode cX4_in 7 = .ok (.if_icmp .gt 7, 3) := by decide +kernel
theorem dX4_in_10 : decode cX4_in 10 = .ok (.iconst 1, 1) := by decide +kernel
theorem dX4_in_11 : decode cX4_in 11 = .ok (.goto 4, 3) := by decide +kernel
theorem dX4_in_14 : decode cX4_in 14 = .ok (.iconst 0, 1) := by decide +kernel
theorem dX4_in_15 : decode cX4_in 15 = .ok (.ireturn, 1) := by decide +kernel
theorem dX4_isCustomer_0 : decode cX4_isCustomer 0 = .ok (.iload_n 0, 1) := by decide +kernel
theorem dX4_isCustomer_1 : decode cX4_isCustomer 1 = .ok (.iconst 0, 1) := by decide +kernel
theorem dX4_isCustomer_2 : decode cX4_isCustomer 2 = .ok (.bipush 7, 2) := by decide +kernel
theorem dX4_isCustomer_4 : decode cX4_isCustomer 4 = .ok (.invokestatic 75, 3) := by decide +kernel
theorem dX4_isCustomer_7 : decode cX4_isCustomer 7 = .ok (.ireturn, 1) := by decide +kernel
theorem dX4_isBill_0 : decode cX4_isBill 0 = .ok (.iload_n 1, 1) := by decide +kernel
theorem dX4_isBill_1 : decode cX4_isBill 1 = .ok (.iconst 0, 1) := by decide +kernel
theorem dX4_isBill_2 : decode cX4_isBill 2 = .ok (.aload_n 0, 1) := by decide +kernel
theorem dX4_isBill_3 : decode cX4_isBill 3 = .ok (.getfield 79, 3) := by decide +kernel
theorem dX4_isBill_6 : decode cX4_isBill 6 = .ok (.iconst 1, 1) := by decide +kernel
theorem dX4_isBill_7 : decode cX4_isBill 7 = .ok (.isub, 1) := by decide +kernel
theorem dX4_isBill_8 : decode cX4_isBill 8 = .ok (.invokestatic 75, 3) := by decide +kernel
theorem dX4_isBill_11 : decode cX4_isBill 11 = .ok (.ireturn, 1) := by decide +kernel
theorem dX4_isReceipt_0 : decode cX4_isReceipt 0 = .ok (.iload_n 1, 1) := by decide +kernel
theorem dX4_isReceipt_1 : decode cX4_isReceipt 1 = .ok (.iconst 0, 1) := by decide +kernel
theorem dX4_isReceipt_2 : decode cX4_isReceipt 2 = .ok (.aload_n 0, 1) := by decide +kernel
theorem dX4_isReceipt_3 : decode cX4_isReceipt 3 = .ok (.getfield 82, 3) := by decide +kernel
theorem dX4_isReceipt_6 : decode cX4_isReceipt 6 = .ok (.iconst 1, 1) := by decide +kernel
theorem dX4_isReceipt_7 : decode cX4_isReceipt 7 = .ok (.isub, 1) := by decide +kernel
theorem dX4_isReceipt_8 : decode cX4_isReceipt 8 = .ok (.invokestatic 75, 3) := by decide +kernel
theorem dX4_isReceipt_11 : decode cX4_isReceipt 11 = .ok (.ireturn, 1) := by decide +kernel
theorem dX4_openNow_0 : decode cX4_openNow 0 = .ok (.aload_n 0, 1) := by decide +kernel
theorem dX4_openNow_1 : decode cX4_openNow 1 = .ok (.getfield 13, 3) := by decide +kernel
theorem dX4_openNow_4 : decode cX4_openNow 4 = .ok (.iload_n 1, 1) := by decide +kernel
theorem dX4_openNow_5 : decode cX4_openNow 5 = .ok (.iaload, 1) := by decide +kernel
theorem dX4_openNow_6 : decode cX4_openNow 6 = .ok (.aload_n 0, 1) := by decide +kernel
theorem dX4_openNow_7 : decode cX4_openNow 7 = .ok (.getfield 28, 3) := by decide +kernel
theorem dX4_openNow_10 : decode cX4_openNow 10 = .ok (.iload_n 1, 1) := by decide +kernel
theorem dX4_openNow_11 : decode cX4_openNow 11 = .ok (.iaload, 1) := by decide +kernel
theorem dX4_openNow_12 : decode cX4_openNow 12 = .ok (.isub, 1) := by decide +kernel
theorem dX4_openNow_13 : decode cX4_openNow 13 = .ok (.aload_n 0, 1) := by decide +kernel
theorem dX4_openNow_14 : decode cX4_openNow 14 = .ok (.getfield 31, 3) := by decide +kernel
theorem dX4_openNow_17 : decode cX4_openNow 17 = .ok (.iload_n 1, 1) := by decide +kernel
theorem dX4_openNow_18 : decode cX4_openNow 18 = .ok (.iaload, 1) := by decide +kernel
theorem dX4_openNow_19 : decode cX4_openNow 19 = .ok (.isub, 1) := by decide +kernel
theorem dX4_openNow_20 : decode cX4_openNow 20 = .ok (.aload_n 0, 1) := by decide +kernel
theorem dX4_openNow_21 : decode cX4_openNow 21 = .ok (.getfield 37, 3) := by decide +kernel
theorem dX4_openNow_24 : decode cX4_openNow 24 = .ok (.iload_n 1, 1) := by decide +kernel
theorem dX4_openNow_25 : decode cX4_openNow 25 = .ok (.iaload, 1) := by decide +kernel
theorem dX4_openNow_26 : decode cX4_openNow 26 = .ok (.isub, 1) := by decide +kernel
theorem dX4_openNow_27 : decode cX4_openNow 27 = .ok (.aload_n 0, 1) := by decide +kernel
theorem dX4_openNow_28 : decode cX4_openNow 28 = .ok (.getfield 43, 3) := by decide +kernel
theorem dX4_openNow_31 : decode cX4_openNow 31 = .ok (.iload_n 1, 1) := by decide +kernel
theorem dX4_openNow_32 : decode cX4_openNow 32 = .ok (.iaload, 1) := by decide +kernel
theorem dX4_openNow_33 : decode cX4_openNow 33 = .ok (.isub, 1) := by decide +kernel
theorem dX4_openNow_34 : decode cX4_openNow 34 = .ok (.ireturn, 1) := by decide +kernel
theorem dX4_discount_0 : decode cX4_discount 0 = .ok (.aload_n 0, 1) := by decide +kernel
theorem dX4_discount_1 : decode cX4_discount 1 = .ok (.iload_n 1, 1) := by decide +kernel
theorem dX4_discount_2 : decode cX4_discount 2 = .ok (.invokevirtual 85, 3) := by decide +kernel
theorem dX4_discount_5 : decode cX4_discount 5 = .ok (.aload_n 0, 1) := by decide +kernel
theorem dX4_discount_6 : decode cX4_discount 6 = .ok (.getfield 13, 3) := by decide +kernel
theorem dX4_discount_9 : decode cX4_discount 9 = .ok (.iload_n 1, 1) := by decide +kernel
theorem dX4_discount_10 : decode cX4_discount 10 = .ok (.iaload, 1) := by decide +kernel
theorem dX4_discount_11 : decode cX4_discount 11 = .ok (.if_icmp .ne 27, 3) := by decide +kernel
theorem dX4_discount_14 : decode cX4_discount 14 = .ok (.aload_n 0, 1) := by decide +kernel
theorem dX4_discount_15 : decode cX4_discount 15 = .ok (.getfield 89, 3) := by decide +kernel
theorem dX4_discount_18 : decode cX4_discount 18 = .ok (.aload_n 0, 1) := by decide +kernel
theorem dX4_discount_19 : decode cX4_discount 19 = .ok (.getfield 19, 3) := by decide +kernel
theorem dX4_discount_22 : decode cX4_discount 22 = .ok (.iload_n 1, 1) := by decide +kernel
theorem dX4_discount_23 : decode cX4_discount 23 = .ok (.iaload, 1) := by decide +kernel
theorem dX4_discount_24 : decode cX4_discount 24 = .ok (.aload_n 0, 1) := by decide +kernel
theorem dX4_discount_25 : decode cX4_discount 25 = .ok (.getfield 25, 3) := by decide +kernel
theorem dX4_discount_28 : decode cX4_discount 28 = .ok (.iload_n 1, 1) := by decide +kernel
theorem dX4_discount_29 : decode cX4_discount 29 = .ok (.iaload, 1) := by decide +kernel
theorem dX4_discount_30 : decode cX4_discount 30 = .ok (.iadd, 1) := by decide +kernel
theorem dX4_discount_31 : decode cX4_discount 31 = .ok (.if_icmp .gt 7, 3) := by decide +kernel
theorem dX4_discount_34 : decode cX4_discount 34 = .ok (.iconst 1, 1) := by decide +kernel
theorem dX4_discount_35 : decode cX4_discount 35 = .ok (.goto 4, 3) := by decide +kernel
theorem dX4_discount_38 : decode cX4_discount 38 = .ok (.iconst 0, 1) := by decide +kernel
theorem dX4_discount_39 : decode cX4_discount 39 = .ok (.istore_n 2, 1) := by decide +kernel
theorem dX4_discount_40 : decode cX4_discount 40 = .ok (.iload_n 2, 1) := by decide +kernel
theorem dX4_discount_41 : decode cX4_discount 41 = .ok (.ifCond .eq 26, 3) := by decide +kernel
theorem dX4_discount_44 : decode cX4_discount 44 = .ok (.aload_n 0, 1) := by decide +kernel
theorem dX4_discount_45 : decode cX4_discount 45 = .ok (.getfield 13, 3) := by decide +kernel
theorem dX4_discount_48 : decode cX4_discount 48 = .ok (.iload_n 1, 1) := by decide +kernel
theorem dX4_discount_49 : decode cX4_discount 49 = .ok (.iaload, 1) := by decide +kernel
theorem dX4_discount_50 : decode cX4_discount 50 = .ok (.i2l, 1) := by decide +kernel
theorem dX4_discount_51 : decode cX4_discount 51 = .ok (.aload_n 0, 1) := by decide +kernel
theorem dX4_discount_52 : decode cX4_discount 52 = .ok (.getfield 22, 3) := by decide +kernel
theorem dX4_discount_55 : decode cX4_discount 55 = .ok (.iload_n 1, 1) := by decide +kernel
theorem dX4_discount_56 : decode cX4_discount 56 = .ok (.iaload, 1) := by decide +kernel
theorem dX4_discount_57 : decode cX4_discount 57 = .ok (.i2l, 1) := by decide +kernel
theorem dX4_discount_58 : decode cX4_discount 58 = .ok (.lmul, 1) := by decide +kernel
theorem dX4_discount_59 : decode cX4_discount 59 = .ok (.ldc2_w 92, 3) := by decide +kernel
theorem dX4_discount_62 : decode cX4_discount 62 = .ok (.ldiv, 1) := by decide +kernel
theorem dX4_discount_63 : decode cX4_discount 63 = .ok (.l2i, 1) := by decide +kernel
theorem dX4_discount_64 : decode cX4_discount 64 = .ok (.goto 4, 3) := by decide +kernel
theorem dX4_discount_67 : decode cX4_discount 67 = .ok (.iconst 0, 1) := by decide +kernel
theorem dX4_discount_68 : decode cX4_discount 68 = .ok (.ireturn, 1) := by decide +kernel
theorem dX4_dueNow_0 : decode cX4_dueNow 0 = .ok (.aload_n 0, 1) := by decide +kernel
theorem dX4_dueNow_1 : decode cX4_dueNow 1 = .ok (.iload_n 1, 1) := by decide +kernel
theorem dX4_dueNow_2 : decode cX4_dueNow 2 = .ok (.invokevirtual 85, 3) := by decide +kernel
theorem dX4_dueNow_5 : decode cX4_dueNow 5 = .ok (.aload_n 0, 1) := by decide +kernel
theorem dX4_dueNow_6 : decode cX4_dueNow 6 = .ok (.iload_n 1, 1) := by decide +kernel
theorem dX4_dueNow_7 : decode cX4_dueNow 7 = .ok (.invokevirtual 94, 3) := by decide +kernel
theorem dX4_dueNow_10 : decode cX4_dueNow 10 = .ok (.isub, 1) := by decide +kernel
theorem dX4_dueNow_11 : decode cX4_dueNow 11 = .ok (.ireturn, 1) := by decide +kernel
theorem dX4_pay_0 : decode cX4_pay 0 = .ok (.aload_n 0, 1) := by decide +kernel
theorem dX4_pay_1 : decode cX4_pay 1 = .ok (.iload_n 2, 1) := by decide +kernel
theorem dX4_pay_2 : decode cX4_pay 2 = .ok (.invokevirtual 97, 3) := by decide +kernel
theorem dX4_pay_5 : decode cX4_pay 5 = .ok (.istore_n 3, 1) := by decide +kernel
theorem dX4_pay_6 : decode cX4_pay 6 = .ok (.aload_n 0, 1) := by decide +kernel
theorem dX4_pay_7 : decode cX4_pay 7 = .ok (.getfield 52, 3) := by decide +kernel
theorem dX4_pay_10 : decode cX4_pay 10 = .ok (.iload_n 1, 1) := by decide +kernel
theorem dX4_pay_11 : decode cX4_pay 11 = .ok (.iaload, 1) := by decide +kernel
theorem dX4_pay_12 : decode cX4_pay 12 = .ok (.iload_n 3, 1) := by decide +kernel
theorem dX4_pay_13 : decode cX4_pay 13 = .ok (.if_icmp .lt 7, 3) := by decide +kernel
theorem dX4_pay_16 : decode cX4_pay 16 = .ok (.iconst 1, 1) := by decide +kernel
theorem dX4_pay_17 : decode cX4_pay 17 = .ok (.goto 4, 3) := by decide +kernel
theorem dX4_pay_20 : decode cX4_pay 20 = .ok (.iconst 0, 1) := by decide +kernel
theorem dX4_pay_21 : decode cX4_pay 21 = .ok (.istore 4, 2) := by decide +kernel
theorem dX4_pay_23 : decode cX4_pay 23 = .ok (.iload 4, 2) := by decide +kernel
theorem dX4_pay_25 : decode cX4_pay 25 = .ok (.ifCond .eq 7, 3) := by decide +kernel
theorem dX4_pay_28 : decode cX4_pay 28 = .ok (.iload_n 3, 1) := by decide +kernel
theorem dX4_pay_29 : decode cX4_pay 29 = .ok (.goto 9, 3) := by decide +kernel
theorem dX4_pay_32 : decode cX4_pay 32 = .ok (.aload_n 0, 1) := by decide +kernel
theorem dX4_pay_33 : decode cX4_pay 33 = .ok (.getfield 52, 3) := by decide +kernel
theorem dX4_pay_36 : decode cX4_pay 36 = .ok (.iload_n 1, 1) := by decide +kernel
theorem dX4_pay_37 : decode cX4_pay 37 = .ok (.iaload, 1) := by decide +kernel
theorem dX4_pay_38 : decode cX4_pay 38 = .ok (.istore 5, 2) := by decide +kernel
theorem dX4_pay_40 : decode cX4_pay 40 = .ok (.iload 4, 2) := by decide +kernel
theorem dX4_pay_42 : decode cX4_pay 42 = .ok (.ifCond .eq 33, 3) := by decide +kernel
theorem dX4_pay_45 : decode cX4_pay 45 = .ok (.aload_n 0, 1) := by decide +kernel
theorem dX4_pay_46 : decode cX4_pay 46 = .ok (.iload_n 2, 1) := by decide +kernel
theorem dX4_pay_47 : decode cX4_pay 47 = .ok (.invokevirtual 94, 3) := by decide +kernel
theorem dX4_pay_50 : decode cX4_pay 50 = .ok (.ifCond .le 25, 3) := by decide +kernel
theorem dX4_pay_53 : decode cX4_pay 53 = .ok (.aload_n 0, 1) := by decide +kernel
theorem dX4_pay_54 : decode cX4_pay 54 = .ok (.iload_n 2, 1) := by decide +kernel
theorem dX4_pay_55 : decode cX4_pay 55 = .ok (.invokevirtual 94, 3) := by decide +kernel
theorem dX4_pay_58 : decode cX4_pay 58 = .ok (.istore 6, 2) := by decide +kernel
theorem dX4_pay_60 : decode cX4_pay 60 = .ok (.aload_n 0, 1) := by decide +kernel
theorem dX4_pay_61 : decode cX4_pay 61 = .ok (.getfield 31, 3) := by decide +kernel
theorem dX4_pay_64 : decode cX4_pay 64 = .ok (.iload_n 2, 1) := by decide +kernel
theorem dX4_pay_65 : decode cX4_pay 65 = .ok (.iload 6, 2) := by decide +kernel
theorem dX4_pay_67 : decode cX4_pay 67 = .ok (.iastore, 1) := by decide +kernel
theorem dX4_pay_68 : decode cX4_pay 68 = .ok (.aload_n 0, 1) := by decide +kernel
theorem dX4_pay_69 : decode cX4_pay 69 = .ok (.getfield 34, 3) := by decide +kernel
theorem dX4_pay_72 : decode cX4_pay 72 = .ok (.iload_n 2, 1) := by decide +kernel
theorem dX4_pay_73 : decode cX4_pay 73 = .ok (.iload_n 1, 1) := by decide +kernel
theorem dX4_pay_74 : decode cX4_pay 74 = .ok (.iastore, 1) := by decide +kernel
theorem dX4_pay_75 : decode cX4_pay 75 = .ok (.aload_n 0, 1) := by decide +kernel
theorem dX4_pay_76 : decode cX4_pay 76 = .ok (.getfield 28, 3) := by decide +kernel
theorem dX4_pay_79 : decode cX4_pay 79 = .ok (.iload_n 2, 1) := by decide +kernel
theorem dX4_pay_80 : decode cX4_pay 80 = .ok (.dup2, 1) := by decide +kernel
theorem dX4_pay_81 : decode cX4_pay 81 = .ok (.iaload, 1) := by decide +kernel
theorem dX4_pay_82 : decode cX4_pay 82 = .ok (.iload 5, 2) := by decide +kernel
theorem dX4_pay_84 : decode cX4_pay 84 = .ok (.iadd, 1) := by decide +kernel
theorem dX4_pay_85 : decode cX4_pay 85 = .ok (.iastore, 1) := by decide +kernel
theorem dX4_pay_86 : decode cX4_pay 86 = .ok (.aload_n 0, 1) := by decide +kernel
theorem dX4_pay_87 : decode cX4_pay 87 = .ok (.getfield 52, 3) := by decide +kernel
theorem dX4_pay_90 : decode cX4_pay 90 = .ok (.iload_n 1, 1) := by decide +kernel
theorem dX4_pay_91 : decode cX4_pay 91 = .ok (.dup2, 1) := by decide +kernel
theorem dX4_pay_92 : decode cX4_pay 92 = .ok (.iaload, 1) := by decide +kernel
theorem dX4_pay_93 : decode cX4_pay 93 = .ok (.iload 5, 2) := by decide +kernel
theorem dX4_pay_95 : decode cX4_pay 95 = .ok (.isub, 1) := by decide +kernel
theorem dX4_pay_96 : decode cX4_pay 96 = .ok (.iastore, 1) := by decide +kernel
theorem dX4_pay_97 : decode cX4_pay 97 = .ok (.aload_n 0, 1) := by decide +kernel
theorem dX4_pay_98 : decode cX4_pay 98 = .ok (.getfield 62, 3) := by decide +kernel
theorem dX4_pay_101 : decode cX4_pay 101 = .ok (.bipush 40, 2) := by decide +kernel
theorem dX4_pay_103 : decode cX4_pay 103 = .ok (.iload_n 1, 1) := by decide +kernel
theorem dX4_pay_104 : decode cX4_pay 104 = .ok (.imul, 1) := by decide +kernel
theorem dX4_pay_105 : decode cX4_pay 105 = .ok (.iload_n 2, 1) := by decide +kernel
theorem dX4_pay_106 : decode cX4_pay 106 = .ok (.iadd, 1) := by decide +kernel
theorem dX4_pay_107 : decode cX4_pay 107 = .ok (.dup2, 1) := by decide +kernel
theorem dX4_pay_108 : decode cX4_pay 108 = .ok (.iaload, 1) := by decide +kernel
theorem dX4_pay_109 : decode cX4_pay 109 = .ok (.iload 5, 2) := by decide +kernel
theorem dX4_pay_111 : decode cX4_pay 111 = .ok (.iadd, 1) := by decide +kernel
theorem dX4_pay_112 : decode cX4_pay 112 = .ok (.iastore, 1) := by decide +kernel
theorem dX4_pay_113 : decode cX4_pay 113 = .ok (.aload_n 0, 1) := by decide +kernel
theorem dX4_pay_114 : decode cX4_pay 114 = .ok (.getfield 65, 3) := by decide +kernel
theorem dX4_pay_117 : decode cX4_pay 117 = .ok (.bipush 40, 2) := by decide +kernel
theorem dX4_pay_119 : decode cX4_pay 119 = .ok (.iload_n 1, 1) := by decide +kernel
theorem dX4_pay_120 : decode cX4_pay 120 = .ok (.imul, 1) := by decide +kernel
theorem dX4_pay_121 : decode cX4_pay 121 = .ok (.iload_n 2, 1) := by decide +kernel
theorem dX4_pay_122 : decode cX4_pay 122 = .ok (.iadd, 1) := by decide +kernel
theorem dX4_pay_123 : decode cX4_pay 123 = .ok (.iconst 1, 1) := by decide +kernel
theorem dX4_pay_124 : decode cX4_pay 124 = .ok (.bastore, 1) := by decide +kernel
theorem dX4_pay_125 : decode cX4_pay 125 = .ok (.iload 4, 2) := by decide +kernel
theorem dX4_pay_127 : decode cX4_pay 127 = .ok (.ireturn, 1) := by decide +kernel
theorem dX4_payNamed_0 : decode cX4_payNamed 0 = .ok (.iconst 0, 1) := by decide +kernel
theorem dX4_payNamed_1 : decode cX4_payNamed 1 = .ok (.istore_n 3, 1) := by decide +kernel
theorem dX4_payNamed_2 : decode cX4_payNamed 2 = .ok (.iload_n 3, 1) := by decide +kernel
theorem dX4_payNamed_3 : decode cX4_payNamed 3 = .ok (.aload_n 0, 1) := by decide +kernel
theorem dX4_payNamed_4 : decode cX4_payNamed 4 = .ok (.getfield 79, 3) := by decide +kernel
theorem dX4_payNamed_7 : decode cX4_payNamed 7 = .ok (.if_icmp .ge 53, 3) := by decide +kernel
theorem dX4_payNamed_10 : decode cX4_payNamed 10 = .ok (.aload_n 0, 1) := by decide +kernel
theorem dX4_payNamed_11 : decode cX4_payNamed 11 = .ok (.getfield 49, 3) := by decide +kernel
theorem dX4_payNamed_14 : decode cX4_payNamed 14 = .ok (.iload_n 1, 1) := by decide +kernel
theorem dX4_payNamed_15 : decode cX4_payNamed 15 = .ok (.iaload, 1) := by decide +kernel
theorem dX4_payNamed_16 : decode cX4_payNamed 16 = .ok (.iconst (-1), 1) := by decide +kernel
theorem dX4_payNamed_17 : decode cX4_payNamed 17 = .ok (.if_icmp .ne 43, 3) := by decide +kernel
theorem dX4_payNamed_20 : decode cX4_payNamed 20 = .ok (.aload_n 0, 1) := by decide +kernel
theorem dX4_payNamed_21 : decode cX4_payNamed 21 = .ok (.getfield 49, 3) := by decide +kernel
theorem dX4_payNamed_24 : decode cX4_payNamed 24 = .ok (.iload_n 1, 1) := by decide +kernel
theorem dX4_payNamed_25 : decode cX4_payNamed 25 = .ok (.aload_n 0, 1) := by decide +kernel
theorem dX4_payNamed_26 : decode cX4_payNamed 26 = .ok (.getfield 16, 3) := by decide +kernel
theorem dX4_payNamed_29 : decode cX4_payNamed 29 = .ok (.iload_n 3, 1) := by decide +kernel
theorem dX4_payNamed_30 : decode cX4_payNamed 30 = .ok (.iaload, 1) := by decide +kernel
theorem dX4_payNamed_31 : decode cX4_payNamed 31 = .ok (.iload_n 2, 1) := by decide +kernel
theorem dX4_payNamed_32 : decode cX4_payNamed 32 = .ok (.if_icmp .ne 20, 3) := by decide +kernel
theorem dX4_payNamed_35 : decode cX4_payNamed 35 = .ok (.aload_n 0, 1) := by decide +kernel
theorem dX4_payNamed_36 : decode cX4_payNamed 36 = .ok (.iload_n 3, 1) := by decide +kernel
theorem dX4_payNamed_37 : decode cX4_payNamed 37 = .ok (.invokevirtual 85, 3) := by decide +kernel
theorem dX4_payNamed_40 : decode cX4_payNamed 40 = .ok (.ifCond .le 12, 3) := by decide +kernel
theorem dX4_payNamed_43 : decode cX4_payNamed 43 = .ok (.aload_n 0, 1) := by decide +kernel
theorem dX4_payNamed_44 : decode cX4_payNamed 44 = .ok (.getfield 7, 3) := by decide +kernel
theorem dX4_payNamed_47 : decode cX4_payNamed 47 = .ok (.iload_n 3, 1) := by decide +kernel
theorem dX4_payNamed_48 : decode cX4_payNamed 48 = .ok (.iaload, 1) := by decide +kernel
theorem dX4_payNamed_49 : decode cX4_payNamed 49 = .ok (.goto 4, 3) := by decide +kernel
theorem dX4_payNamed_52 : decode cX4_payNamed 52 = .ok (.iconst (-1), 1) := by decide +kernel
theorem dX4_payNamed_53 : decode cX4_payNamed 53 = .ok (.iastore, 1) := by decide +kernel
theorem dX4_payNamed_54 : decode cX4_payNamed 54 = .ok (.iinc 3 1, 3) := by decide +kernel
theorem dX4_payNamed_57 : decode cX4_payNamed 57 = .ok (.goto (-55), 3) := by decide +kernel
theorem dX4_payNamed_60 : decode cX4_payNamed 60 = .ok (.iconst 0, 1) := by decide +kernel
theorem dX4_payNamed_61 : decode cX4_payNamed 61 = .ok (.istore_n 3, 1) := by decide +kernel
theorem dX4_payNamed_62 : decode cX4_payNamed 62 = .ok (.iload_n 3, 1) := by decide +kernel
theorem dX4_payNamed_63 : decode cX4_payNamed 63 = .ok (.aload_n 0, 1) := by decide +kernel
theorem dX4_payNamed_64 : decode cX4_payNamed 64 = .ok (.getfield 79, 3) := by decide +kernel
theorem dX4_payNamed_67 : decode cX4_payNamed 67 = .ok (.if_icmp .ge 78, 3) := by decide +kernel
theorem dX4_payNamed_70 : decode cX4_payNamed 70 = .ok (.aload_n 0, 1) := by decide +kernel
theorem dX4_payNamed_71 : decode cX4_payNamed 71 = .ok (.getfield 7, 3) := by decide +kernel
theorem dX4_payNamed_74 : decode cX4_payNamed 74 = .ok (.iload_n 3, 1) := by decide +kernel
theorem dX4_payNamed_75 : decode cX4_payNamed 75 = .ok (.iaload, 1) := by decide +kernel
theorem dX4_payNamed_76 : decode cX4_payNamed 76 = .ok (.aload_n 0, 1) := by decide +kernel
theorem dX4_payNamed_77 : decode cX4_payNamed 77 = .ok (.getfield 49, 3) := by decide +kernel
theorem dX4_payNamed_80 : decode cX4_payNamed 80 = .ok (.iload_n 1, 1) := by decide +kernel
theorem dX4_payNamed_81 : decode cX4_payNamed 81 = .ok (.iaload, 1) := by decide +kernel
theorem dX4_payNamed_82 : decode cX4_payNamed 82 = .ok (.if_icmp .ne 34, 3) := by decide +kernel
theorem dX4_payNamed_85 : decode cX4_payNamed 85 = .ok (.aload_n 0, 1) := by decide +kernel
theorem dX4_payNamed_86 : decode cX4_payNamed 86 = .ok (.getfield 16, 3) := by decide +kernel
theorem dX4_payNamed_89 : decode cX4_payNamed 89 = .ok (.iload_n 3, 1) := by decide +kernel
theorem dX4_payNamed_90 : decode cX4_payNamed 90 = .ok (.iaload, 1) := by decide +kernel
theorem dX4_payNamed_91 : decode cX4_payNamed 91 = .ok (.iload_n 2, 1) := by decide +kernel
theorem dX4_payNamed_92 : decode cX4_payNamed 92 = .ok (.if_icmp .ne 24, 3) := by decide +kernel
theorem dX4_payNamed_95 : decode cX4_payNamed 95 = .ok (.aload_n 0, 1) := by decide +kernel
theorem dX4_payNamed_96 : decode cX4_payNamed 96 = .ok (.iload_n 3, 1) := by decide +kernel
theorem dX4_payNamed_97 : decode cX4_payNamed 97 = .ok (.invokevirtual 85, 3) := by decide +kernel
theorem dX4_payNamed_100 : decode cX4_payNamed 100 = .ok (.ifCond .le 16, 3) := by decide +kernel
theorem dX4_payNamed_103 : decode cX4_payNamed 103 = .ok (.aload_n 0, 1) := by decide +kernel
theorem dX4_payNamed_104 : decode cX4_payNamed 104 = .ok (.getfield 52, 3) := by decide +kernel
theorem dX4_payNamed_107 : decode cX4_payNamed 107 = .ok (.iload_n 1, 1) := by decide +kernel
theorem dX4_payNamed_108 : decode cX4_payNamed 108 = .ok (.iaload, 1) := by decide +kernel
theorem dX4_payNamed_109 : decode cX4_payNamed 109 = .ok (.ifCond .le 7, 3) := by decide +kernel
theorem dX4_payNamed_112 : decode cX4_payNamed 112 = .ok (.iconst 1, 1) := by decide +kernel
theorem dX4_payNamed_113 : decode cX4_payNamed 113 = .ok (.goto 4, 3) := by decide +kernel
theorem dX4_payNamed_116 : decode cX4_payNamed 116 = .ok (.iconst 0, 1) := by decide +kernel
theorem dX4_payNamed_117 : decode cX4_payNamed 117 = .ok (.istore 4, 2) := by decide +kernel
theorem dX4_payNamed_119 : decode cX4_payNamed 119 = .ok (.iload 4, 2) := by decide +kernel
theorem dX4_payNamed_121 : decode cX4_payNamed 121 = .ok (.ifCond .eq 18, 3) := by decide +kernel
theorem dX4_payNamed_124 : decode cX4_payNamed 124 = .ok (.aload_n 0, 1) := by decide +kernel
theorem dX4_payNamed_125 : decode cX4_payNamed 125 = .ok (.iload_n 1, 1) := by decide +kernel
theorem dX4_payNamed_126 : decode cX4_payNamed 126 = .ok (.iload_n 3, 1) := by decide +kernel
theorem dX4_payNamed_127 : decode cX4_payNamed 127 = .ok (.invokevirtual 100, 3) := by decide +kernel
theorem dX4_payNamed_130 : decode cX4_payNamed 130 = .ok (.ifCond .ne 9, 3) := by decide +kernel
theorem dX4_payNamed_133 : decode cX4_payNamed 133 = .ok (.aload_n 0, 1) := by decide +kernel
theorem dX4_payNamed_134 : decode cX4_payNamed 134 = .ok (.iload_n 1, 1) := by decide +kernel
theorem dX4_payNamed_135 : decode cX4_payNamed 135 = .ok (.iload_n 3, 1) := by decide +kernel
theorem dX4_payNamed_136 : decode cX4_payNamed 136 = .ok (.invokevirtual 104, 3) := by decide +kernel
theorem dX4_payNamed_139 : decode cX4_payNamed 139 = .ok (.iinc 3 1, 3) := by decide +kernel
theorem dX4_payNamed_142 : decode cX4_payNamed 142 = .ok (.goto (-80), 3) := by decide +kernel
theorem dX4_payNamed_145 : decode cX4_payNamed 145 = .ok (.return_, 1) := by decide +kernel
theorem dX4_dispute_0 : decode cX4_dispute 0 = .ok (.aload_n 0, 1) := by decide +kernel
theorem dX4_dispute_1 : decode cX4_dispute 1 = .ok (.getfield 37, 3) := by decide +kernel
theorem dX4_dispute_4 : decode cX4_dispute 4 = .ok (.iload_n 2, 1) := by decide +kernel
theorem dX4_dispute_5 : decode cX4_dispute 5 = .ok (.dup2, 1) := by decide +kernel
theorem dX4_dispute_6 : decode cX4_dispute 6 = .ok (.iaload, 1) := by decide +kernel
theorem dX4_dispute_7 : decode cX4_dispute 7 = .ok (.aload_n 0, 1) := by decide +kernel
theorem dX4_dispute_8 : decode cX4_dispute 8 = .ok (.iload_n 2, 1) := by decide +kernel
theorem dX4_dispute_9 : decode cX4_dispute 9 = .ok (.invokevirtual 85, 3) := by decide +kernel
theorem dX4_dispute_12 : decode cX4_dispute 12 = .ok (.iadd, 1) := by decide +kernel
theorem dX4_dispute_13 : decode cX4_dispute 13 = .ok (.iastore, 1) := by decide +kernel
theorem dX4_dispute_14 : decode cX4_dispute 14 = .ok (.aload_n 0, 1) := by decide +kernel
theorem dX4_dispute_15 : decode cX4_dispute 15 = .ok (.getfield 40, 3) := by decide +kernel
theorem dX4_dispute_18 : decode cX4_dispute 18 = .ok (.iload_n 2, 1) := by decide +kernel
theorem dX4_dispute_19 : decode cX4_dispute 19 = .ok (.iload_n 1, 1) := by decide +kernel
theorem dX4_dispute_20 : decode cX4_dispute 20 = .ok (.iastore, 1) := by decide +kernel
theorem dX4_dispute_21 : decode cX4_dispute 21 = .ok (.return_, 1) := by decide +kernel
theorem dX4_dueOf_0 : decode cX4_dueOf 0 = .ok (.aload_n 0, 1) := by decide +kernel
theorem dX4_dueOf_1 : decode cX4_dueOf 1 = .ok (.iload_n 2, 1) := by decide +kernel
theorem dX4_dueOf_2 : decode cX4_dueOf 2 = .ok (.invokevirtual 108, 3) := by decide +kernel
theorem dX4_dueOf_5 : decode cX4_dueOf 5 = .ok (.ifCond .eq 29, 3) := by decide +kernel
theorem dX4_dueOf_8 : decode cX4_dueOf 8 = .ok (.aload_n 0, 1) := by decide +kernel
theorem dX4_dueOf_9 : decode cX4_dueOf 9 = .ok (.getfield 7, 3) := by decide +kernel
theorem dX4_dueOf_12 : decode cX4_dueOf 12 = .ok (.iload_n 2, 1) := by decide +kernel
theorem dX4_dueOf_13 : decode cX4_dueOf 13 = .ok (.iaload, 1) := by decide +kernel
theorem dX4_dueOf_14 : decode cX4_dueOf 14 = .ok (.iload_n 1, 1) := by decide +kernel
theorem dX4_dueOf_15 : decode cX4_dueOf 15 = .ok (.if_icmp .ne 19, 3) := by decide +kernel
theorem dX4_dueOf_18 : decode cX4_dueOf 18 = .ok (.aload_n 0, 1) := by decide +kernel
theorem dX4_dueOf_19 : decode cX4_dueOf 19 = .ok (.iload_n 2, 1) := by decide +kernel
theorem dX4_dueOf_20 : decode cX4_dueOf 20 = .ok (.invokevirtual 85, 3) := by decide +kernel
theorem dX4_dueOf_23 : decode cX4_dueOf 23 = .ok (.ifCond .le 11, 3) := by decide +kernel
theorem dX4_dueOf_26 : decode cX4_dueOf 26 = .ok (.aload_n 0, 1) := by decide +kernel
theorem dX4_dueOf_27 : decode cX4_dueOf 27 = .ok (.iload_n 2, 1) := by decide +kernel
theorem dX4_dueOf_28 : decode cX4_dueOf 28 = .ok (.invokevirtual 97, 3) := by decide +kernel
theorem dX4_dueOf_31 : decode cX4_dueOf 31 = .ok (.goto 4, 3) := by decide +kernel
theorem dX4_dueOf_34 : decode cX4_dueOf 34 = .ok (.iconst (-1), 1) := by decide +kernel
theorem dX4_dueOf_35 : decode cX4_dueOf 35 = .ok (.ireturn, 1) := by decide +kernel
theorem dX4_choose_0 : decode cX4_choose 0 = .ok (.iconst 1, 1) := by decide +kernel
theorem dX4_choose_1 : decode cX4_choose 1 = .ok (.istore 4, 2) := by decide +kernel
theorem dX4_choose_3 : decode cX4_choose 3 = .ok (.iload 4, 2) := by decide +kernel
theorem dX4_choose_5 : decode cX4_choose 5 = .ok (.iconst 3, 1) := by decide +kernel
theorem dX4_choose_6 : decode cX4_choose 6 = .ok (.if_icmp .gt 260, 3) := by decide +kernel
theorem dX4_choose_9 : decode cX4_choose 9 = .ok (.iconst 0, 1) := by decide +kernel
theorem dX4_choose_10 : decode cX4_choose 10 = .ok (.istore 5, 2) := by decide +kernel
theorem dX4_choose_12 : decode cX4_choose 12 = .ok (.iload 5, 2) := by decide +kernel
theorem dX4_choose_14 : decode cX4_choose 14 = .ok (.aload_n 0, 1) := by decide +kernel
theorem dX4_choose_15 : decode cX4_choose 15 = .ok (.getfield 79, 3) := by decide +kernel
theorem dX4_choose_18 : decode cX4_choose 18 = .ok (.if_icmp .ge 242, 3) := by decide +kernel
theorem dX4_choose_21 : decode cX4_choose 21 = .ok (.iload 4, 2) := by decide +kernel
theorem dX4_choose_23 : decode cX4_choose 23 = .ok (.iconst 1, 1) := by decide +kernel
theorem dX4_choose_24 : decode cX4_choose 24 = .ok (.if_icmp .le 10, 3) := by decide +kernel
theorem dX4_choose_27 : decode cX4_choose 27 = .ok (.iload 5, 2) := by decide +kernel
theorem dX4_choose_29 : decode cX4_choose 29 = .ok (.iconst 1, 1) := by decide +kernel
theorem dX4_choose_30 : decode cX4_choose 30 = .ok (.iadd, 1) := by decide +kernel
theorem dX4_choose_31 : decode cX4_choose 31 = .ok (.goto 5, 3) := by decide +kernel
theorem dX4_choose_34 : decode cX4_choose 34 = .ok (.bipush 40, 2) := by decide +kernel
theorem dX4_choose_36 : decode cX4_choose 36 = .ok (.istore 6, 2) := by decide +kernel
theorem dX4_choose_38 : decode cX4_choose 38 = .ok (.iload 6, 2) := by decide +kernel
theorem dX4_choose_40 : decode cX4_choose 40 = .ok (.bipush 40, 2) := by decide +kernel
theorem dX4_choose_42 : decode cX4_choose 42 = .ok (.if_icmp .gt 212, 3) := by decide +kernel
theorem dX4_choose_45 : decode cX4_choose 45 = .ok (.iload 4, 2) := by decide +kernel
theorem dX4_choose_47 : decode cX4_choose 47 = .ok (.iconst 2, 1) := by decide +kernel
theorem dX4_choose_48 : decode cX4_choose 48 = .ok (.if_icmp .le 10, 3) := by decide +kernel
theorem dX4_choose_51 : decode cX4_choose 51 = .ok (.iload 6, 2) := by decide +kernel
theorem dX4_choose_53 : decode cX4_choose 53 = .ok (.iconst 1, 1) := by decide +kernel
theorem dX4_choose_54 : decode cX4_choose 54 = .ok (.iadd, 1) := by decide +kernel
theorem dX4_choose_55 : decode cX4_choose 55 = .ok (.goto 5, 3) := by decide +kernel
theorem dX4_choose_58 : decode cX4_choose 58 = .ok (.bipush 40, 2) := by decide +kernel
theorem dX4_choose_60 : decode cX4_choose 60 = .ok (.istore 7, 2) := by decide +kernel
theorem dX4_choose_62 : decode cX4_choose 62 = .ok (.iload 7, 2) := by decide +kernel
theorem dX4_choose_64 : decode cX4_choose 64 = .ok (.bipush 40, 2) := by decide +kernel
theorem dX4_choose_66 : decode cX4_choose 66 = .ok (.if_icmp .gt 182, 3) := by decide +kernel
theorem dX4_choose_69 : decode cX4_choose 69 = .ok (.aload_n 0, 1) := by decide +kernel
theorem dX4_choose_70 : decode cX4_choose 70 = .ok (.iload_n 1, 1) := by decide +kernel
theorem dX4_choose_71 : decode cX4_choose 71 = .ok (.iload 5, 2) := by decide +kernel
theorem dX4_choose_73 : decode cX4_choose 73 = .ok (.invokevirtual 112, 3) := by decide +kernel
theorem dX4_choose_76 : decode cX4_choose 76 = .ok (.istore 8, 2) := by decide +kernel
theorem dX4_choose_78 : decode cX4_choose 78 = .ok (.aload_n 0, 1) := by decide +kernel
theorem dX4_choose_79 : decode cX4_choose 79 = .ok (.iload_n 1, 1) := by decide +kernel
theorem dX4_choose_80 : decode cX4_choose 80 = .ok (.iload 6, 2) := by decide +kernel
theorem dX4_choose_82 : decode cX4_choose 82 = .ok (.invokevirtual 112, 3) := by decide +kernel
theorem dX4_choose_85 : decode cX4_choose 85 = .ok (.istore 9, 2) := by decide +kernel
theorem dX4_choose_87 : decode cX4_choose 87 = .ok (.aload_n 0, 1) := by decide +kernel
theorem dX4_choose_88 : decode cX4_choose 88 = .ok (.iload_n 1, 1) := by decide +kernel
theorem dX4_choose_89 : decode cX4_choose 89 = .ok (.iload 7, 2) := by decide +kernel
theorem dX4_choose_91 : decode cX4_choose 91 = .ok (.invokevirtual 112, 3) := by decide +kernel
theorem dX4_choose_94 : decode cX4_choose 94 = .ok (.istore 10, 2) := by decide +kernel
theorem dX4_choose_96 : decode cX4_choose 96 = .ok (.iload 8, 2) := by decide +kernel
theorem dX4_choose_98 : decode cX4_choose 98 = .ok (.ifCond .lt 55, 3) := by decide +kernel
theorem dX4_choose_101 : decode cX4_choose 101 = .ok (.iload 9, 2) := by decide +kernel
theorem dX4_choose_103 : decode cX4_choose 103 = .ok (.ifCond .lt 7, 3) := by decide +kernel
theorem dX4_choose_106 : decode cX4_choose 106 = .ok (.iconst 1, 1) := by decide +kernel
theorem dX4_choose_107 : decode cX4_choose 107 = .ok (.goto 4, 3) := by decide +kernel
theorem dX4_choose_110 : decode cX4_choose 110 = .ok (.iconst 0, 1) := by decide +kernel
theorem dX4_choose_111 : decode cX4_choose 111 = .ok (.iload 4, 2) := by decide +kernel
theorem dX4_choose_113 : decode cX4_choose 113 = .ok (.iconst 1, 1) := by decide +kernel
theorem dX4_choose_114 : decode cX4_choose 114 = .ok (.if_icmp .le 7, 3) := by decide +kernel
theorem dX4_choose_117 : decode cX4_choose 117 = .ok (.iconst 1, 1) := by decide +kernel
theorem dX4_choose_118 : decode cX4_choose 118 = .ok (.goto 4, 3) := by decide +kernel
theorem dX4_choose_121 : decode cX4_choose 121 = .ok (.iconst 0, 1) := by decide +kernel
theorem dX4_choose_122 : decode cX4_choose 122 = .ok (.if_icmp .ne 31, 3) := by decide +kernel
theorem dX4_choose_125 : decode cX4_choose 125 = .ok (.iload 10, 2) := by decide +kernel
theorem dX4_choose_127 : decode cX4_choose 127 = .ok (.ifCond .lt 7, 3) := by decide +kernel
theorem dX4_choose_130 : decode cX4_choose 130 = .ok (.iconst 1, 1) := by decide +kernel
theorem dX4_choose_131 : decode cX4_choose 131 = .ok (.goto 4, 3) := by decide +kernel
theorem dX4_choose_134 : decode cX4_choose 134 = .ok (.iconst 0, 1) := by decide +kernel
theorem dX4_choose_135 : decode cX4_choose 135 = .ok (.iload 4, 2) := by decide +kernel
theorem dX4_choose_137 : decode cX4_choose 137 = .ok (.iconst 2, 1) := by decide +kernel
theorem dX4_choose_138 : decode cX4_choose 138 = .ok (.if_icmp .le 7, 3) := by decide +kernel
theorem dX4_choose_141 : decode cX4_choose 141 = .ok (.iconst 1, 1) := by decide +kernel
theorem dX4_choose_142 : decode cX4_choose 142 = .ok (.goto 4, 3) := by decide +kernel
theorem dX4_choose_145 : decode cX4_choose 145 = .ok (.iconst 0, 1) := by decide +kernel
theorem dX4_choose_146 : decode cX4_choose 146 = .ok (.if_icmp .ne 7, 3) := by decide +kernel
theorem dX4_choose_149 : decode cX4_choose 149 = .ok (.iconst 1, 1) := by decide +kernel
theorem dX4_choose_150 : decode cX4_choose 150 = .ok (.goto 4, 3) := by decide +kernel
theorem dX4_choose_153 : decode cX4_choose 153 = .ok (.iconst 0, 1) := by decide +kernel
theorem dX4_choose_154 : decode cX4_choose 154 = .ok (.istore 11, 2) := by decide +kernel
theorem dX4_choose_156 : decode cX4_choose 156 = .ok (.iload 11, 2) := by decide +kernel
theorem dX4_choose_158 : decode cX4_choose 158 = .ok (.ifCond .eq 84, 3) := by decide +kernel
theorem dX4_choose_161 : decode cX4_choose 161 = .ok (.iload 8, 2) := by decide +kernel
theorem dX4_choose_163 : decode cX4_choose 163 = .ok (.i2l, 1) := by decide +kernel
theorem dX4_choose_164 : decode cX4_choose 164 = .ok (.iload 9, 2) := by decide +kernel
theorem dX4_choose_166 : decode cX4_choose 166 = .ok (.ifCond .ge 7, 3) := by decide +kernel
theorem dX4_choose_169 : decode cX4_choose 169 = .ok (.iconst 0, 1) := by decide +kernel
theorem dX4_choose_170 : decode cX4_choose 170 = .ok (.goto 5, 3) := by decide +kernel
theorem dX4_choose_173 : decode cX4_choose 173 = .ok (.iload 9, 2) := by decide +kernel
theorem dX4_choose_175 : decode cX4_choose 175 = .ok (.i2l, 1) := by decide +kernel
theorem dX4_choose_176 : decode cX4_choose 176 = .ok (.ladd, 1) := by decide +kernel
theorem dX4_choose_177 : decode cX4_choose 177 = .ok (.iload 10, 2) := by decide +kernel
theorem dX4_choose_179 : decode cX4_choose 179 = .ok (.ifCond .ge 7, 3) := by decide +kernel
theorem dX4_choose_182 : decode cX4_choose 182 = .ok (.iconst 0, 1) := by decide +kernel
theorem dX4_choose_183 : decode cX4_choose 183 = .ok (.goto 5, 3) := by decide +kernel
theorem dX4_choose_186 : decode cX4_choose 186 = .ok (.iload 10, 2) := by decide +kernel
theorem dX4_choose_188 : decode cX4_choose 188 = .ok (.i2l, 1) := by decide +kernel
theorem dX4_choose_189 : decode cX4_choose 189 = .ok (.ladd, 1) := by decide +kernel
theorem dX4_choose_190 : decode cX4_choose 190 = .ok (.lload_n 2, 1) := by decide +kernel
theorem dX4_choose_191 : decode cX4_choose 191 = .ok (.lcmp, 1) := by decide +kernel
theorem dX4_choose_192 : decode cX4_choose 192 = .ok (.ifCond .ne 50, 3) := by decide +kernel
theorem dX4_choose_195 : decode cX4_choose 195 = .ok (.aload_n 0, 1) := by decide +kernel
theorem dX4_choose_196 : decode cX4_choose 196 = .ok (.getfield 68, 3) := by decide +kernel
theorem dX4_choose_199 : decode cX4_choose 199 = .ok (.iconst 0, 1) := by decide +kernel
theorem dX4_choose_200 : decode cX4_choose 200 = .ok (.iload 5, 2) := by decide +kernel
theorem dX4_choose_202 : decode cX4_choose 202 = .ok (.iastore, 1) := by decide +kernel
theorem dX4_choose_203 : decode cX4_choose 203 = .ok (.aload_n 0, 1) := by decide +kernel
theorem dX4_choose_204 : decode cX4_choose 204 = .ok (.getfield 68, 3) := by decide +kernel
theorem dX4_choose_207 : decode cX4_choose 207 = .ok (.iconst 1, 1) := by decide +kernel
theorem dX4_choose_208 : decode cX4_choose 208 = .ok (.iload 4, 2) := by decide +kernel
theorem dX4_choose_210 : decode cX4_choose 210 = .ok (.iconst 1, 1) := by decide +kernel
theorem dX4_choose_211 : decode cX4_choose 211 = .ok (.if_icmp .le 8, 3) := by decide +kernel
theorem dX4_choose_214 : decode cX4_choose 214 = .ok (.iload 6, 2) := by decide +kernel
theorem dX4_choose_216 : decode cX4_choose 216 = .ok (.goto 4, 3) := by decide +kernel
theorem dX4_choose_219 : decode cX4_choose 219 = .ok (.iconst (-1), 1) := by decide +kernel
theorem dX4_choose_220 : decode cX4_choose 220 = .ok (.iastore, 1) := by decide +kernel
theorem dX4_choose_221 : decode cX4_choose 221 = .ok (.aload_n 0, 1) := by decide +kernel
theorem dX4_choose_222 : decode cX4_choose 222 = .ok (.getfield 68, 3) := by decide +kernel
theorem dX4_choose_225 : decode cX4_choose 225 = .ok (.iconst 2, 1) := by decide +kernel
theorem dX4_choose_226 : decode cX4_choose 226 = .ok (.iload 4, 2) := by decide +kernel
theorem dX4_choose_228 : decode cX4_choose 228 = .ok (.iconst 2, 1) := by decide +kernel
theorem dX4_choose_229 : decode cX4_choose 229 = .ok (.if_icmp .le 8, 3) := by decide +kernel
theorem dX4_choose_232 : decode cX4_choose 232 = .ok (.iload 7, 2) := by decide +kernel
theorem dX4_choose_234 : decode cX4_choose 234 = .ok (.goto 4, 3) := by decide +kernel
theorem dX4_choose_237 : decode cX4_choose 237 = .ok (.iconst (-1), 1) := by decide +kernel
theorem dX4_choose_238 : decode cX4_choose 238 = .ok (.iastore, 1) := by decide +kernel
theorem dX4_choose_239 : decode cX4_choose 239 = .ok (.iload 4, 2) := by decide +kernel
theorem dX4_choose_241 : decode cX4_choose 241 = .ok (.ireturn, 1) := by decide +kernel
theorem dX4_choose_242 : decode cX4_choose 242 = .ok (.iinc 7 1, 3) := by decide +kernel
theorem dX4_choose_245 : decode cX4_choose 245 = .ok (.goto (-183), 3) := by decide +kernel
theorem dX4_choose_248 : decode cX4_choose 248 = .ok (.iinc 6 1, 3) := by decide +kernel
theorem dX4_choose_251 : decode cX4_choose 251 = .ok (.goto (-213), 3) := by decide +kernel
theorem dX4_choose_254 : decode cX4_choose 254 = .ok (.iinc 5 1, 3) := by decide +kernel
theorem dX4_choose_257 : decode cX4_choose 257 = .ok (.goto (-245), 3) := by decide +kernel
theorem dX4_choose_260 : decode cX4_choose 260 = .ok (.iinc 4 1, 3) := by decide +kernel
theorem dX4_choose_263 : decode cX4_choose 263 = .ok (.goto (-260), 3) := by decide +kernel
theorem dX4_choose_266 : decode cX4_choose 266 = .ok (.iconst 0, 1) := by decide +kernel
theorem dX4_choose_267 : decode cX4_choose 267 = .ok (.ireturn, 1) := by decide +kernel
theorem dX4_payOthers_0 : decode cX4_payOthers 0 = .ok (.aload_n 0, 1) := by decide +kernel
theorem dX4_payOthers_1 : decode cX4_payOthers 1 = .ok (.getfield 49, 3) := by decide +kernel
theorem dX4_payOthers_4 : decode cX4_payOthers 4 = .ok (.iload_n 1, 1) := by decide +kernel
theorem dX4_payOthers_5 : decode cX4_payOthers 5 = .ok (.iaload, 1) := by decide +kernel
theorem dX4_payOthers_6 : decode cX4_payOthers 6 = .ok (.istore_n 2, 1) := by decide +kernel
theorem dX4_payOthers_7 : decode cX4_payOthers 7 = .ok (.iload_n 2, 1) := by decide +kernel
theorem dX4_payOthers_8 : decode cX4_payOthers 8 = .ok (.iconst (-1), 1) := by decide +kernel
theorem dX4_payOthers_9 : decode cX4_payOthers 9 = .ok (.if_icmp .eq 12, 3) := by decide +kernel
theorem dX4_payOthers_12 : decode cX4_payOthers 12 = .ok (.aload_n 0, 1) := by decide +kernel
theorem dX4_payOthers_13 : decode cX4_payOthers 13 = .ok (.getfield 52, 3) := by decide +kernel
theorem dX4_payOthers_16 : decode cX4_payOthers 16 = .ok (.iload_n 1, 1) := by decide +kernel
theorem dX4_payOthers_17 : decode cX4_payOthers 17 = .ok (.iaload, 1) := by decide +kernel
theorem dX4_payOthers_18 : decode cX4_payOthers 18 = .ok (.ifCond .ne 4, 3) := by decide +kernel
theorem dX4_payOthers_21 : decode cX4_payOthers 21 = .ok (.return_, 1) := by decide +kernel
theorem dX4_payOthers_22 : decode cX4_payOthers 22 = .ok (.aload_n 0, 1) := by decide +kernel
theorem dX4_payOthers_23 : decode cX4_payOthers 23 = .ok (.iload_n 2, 1) := by decide +kernel
theorem dX4_payOthers_24 : decode cX4_payOthers 24 = .ok (.aload_n 0, 1) := by decide +kernel
theorem dX4_payOthers_25 : decode cX4_payOthers 25 = .ok (.getfield 52, 3) := by decide +kernel
theorem dX4_payOthers_28 : decode cX4_payOthers 28 = .ok (.iload_n 1, 1) := by decide +kernel
theorem dX4_payOthers_29 : decode cX4_payOthers 29 = .ok (.iaload, 1) := by decide +kernel
theorem dX4_payOthers_30 : decode cX4_payOthers 30 = .ok (.i2l, 1) := by decide +kernel
theorem dX4_payOthers_31 : decode cX4_payOthers 31 = .ok (.invokevirtual 116, 3) := by decide +kernel
theorem dX4_payOthers_34 : decode cX4_payOthers 34 = .ok (.istore_n 3, 1) := by decide +kernel
theorem dX4_payOthers_35 : decode cX4_payOthers 35 = .ok (.iconst 0, 1) := by decide +kernel
theorem dX4_payOthers_36 : decode cX4_payOthers 36 = .ok (.istore 4, 2) := by decide +kernel
theorem dX4_payOthers_38 : decode cX4_payOthers 38 = .ok (.iload 4, 2) := by decide +kernel
theorem dX4_payOthers_40 : decode cX4_payOthers 40 = .ok (.iload_n 3, 1) := by decide +kernel
theorem dX4_payOthers_41 : decode cX4_payOthers 41 = .ok (.if_icmp .ge 22, 3) := by decide +kernel
theorem dX4_payOthers_44 : decode cX4_payOthers 44 = .ok (.aload_n 0, 1) := by decide +kernel
theorem dX4_payOthers_45 : decode cX4_payOthers 45 = .ok (.iload_n 1, 1) := by decide +kernel
theorem dX4_payOthers_46 : decode cX4_payOthers 46 = .ok (.aload_n 0, 1) := by decide +kernel
theorem dX4_payOthers_47 : decode cX4_payOthers 47 = .ok (.getfield 68, 3) := by decide +kernel
theorem dX4_payOthers_50 : decode cX4_payOthers 50 = .ok (.iload 4, 2) := by decide +kernel
theorem dX4_payOthers_52 : decode cX4_payOthers 52 = .ok (.iaload, 1) := by decide +kernel
theorem dX4_payOthers_53 : decode cX4_payOthers 53 = .ok (.invokevirtual 100, 3) := by decide +kernel
theorem dX4_payOthers_56 : decode cX4_payOthers 56 = .ok (.pop, 1) := by decide +kernel
theorem dX4_payOthers_57 : decode cX4_payOthers 57 = .ok (.iinc 4 1, 3) := by decide +kernel
theorem dX4_payOthers_60 : decode cX4_payOthers 60 = .ok (.goto (-22), 3) := by decide +kernel
theorem dX4_payOthers_63 : decode cX4_payOthers 63 = .ok (.iconst (-1), 1) := by decide +kernel
theorem dX4_payOthers_64 : decode cX4_payOthers 64 = .ok (.istore 4, 2) := by decide +kernel
theorem dX4_payOthers_66 : decode cX4_payOthers 66 = .ok (.iconst (-1), 1) := by decide +kernel
theorem dX4_payOthers_67 : decode cX4_payOthers 67 = .ok (.istore 5, 2) := by decide +kernel
theorem dX4_payOthers_69 : decode cX4_payOthers 69 = .ok (.iconst 1, 1) := by decide +kernel
theorem dX4_payOthers_70 : decode cX4_payOthers 70 = .ok (.istore 6, 2) := by decide +kernel
theorem dX4_payOthers_72 : decode cX4_payOthers 72 = .ok (.aload_n 0, 1) := by decide +kernel
theorem dX4_payOthers_73 : decode cX4_payOthers 73 = .ok (.getfield 52, 3) := by decide +kernel
theorem dX4_payOthers_76 : decode cX4_payOthers 76 = .ok (.iload_n 1, 1) := by decide +kernel
theorem dX4_payOthers_77 : decode cX4_payOthers 77 = .ok (.iaload, 1) := by decide +kernel
theorem dX4_payOthers_78 : decode cX4_payOthers 78 = .ok (.ifCond .le 178, 3) := by decide +kernel
theorem dX4_payOthers_81 : decode cX4_payOthers 81 = .ok (.iload 6, 2) := by decide +kernel
theorem dX4_payOthers_83 : decode cX4_payOthers 83 = .ok (.ifCond .eq 173, 3) := by decide +kernel
theorem dX4_payOthers_86 : decode cX4_payOthers 86 = .ok (.iconst (-1), 1) := by decide +kernel
theorem dX4_payOthers_87 : decode cX4_payOthers 87 = .ok (.istore 7, 2) := by decide +kernel
theorem dX4_payOthers_89 : decode cX4_payOthers 89 = .ok (.iconst 0, 1) := by decide +kernel
theorem dX4_payOthers_90 : decode cX4_payOthers 90 = .ok (.istore 8, 2) := by decide +kernel
theorem dX4_payOthers_92 : decode cX4_payOthers 92 = .ok (.iload 8, 2) := by decide +kernel
theorem dX4_payOthers_94 : decode cX4_payOthers 94 = .ok (.aload_n 0, 1) := by decide +kernel
theorem dX4_payOthers_95 : decode cX4_payOthers 95 = .ok (.getfield 79, 3) := by decide +kernel
theorem dX4_payOthers_98 : decode cX4_payOthers 98 = .ok (.if_icmp .ge 116, 3) := by decide +kernel
theorem dX4_payOthers_101 : decode cX4_payOthers 101 = .ok (.aload_n 0, 1) := by decide +kernel
theorem dX4_payOthers_102 : decode cX4_payOthers 102 = .ok (.getfield 19, 3) := by decide +kernel
theorem dX4_payOthers_105 : decode cX4_payOthers 105 = .ok (.iload 8, 2) := by decide +kernel
theorem dX4_payOthers_107 : decode cX4_payOthers 107 = .ok (.iaload, 1) := by decide +kernel
theorem dX4_payOthers_108 : decode cX4_payOthers 108 = .ok (.iload 5, 2) := by decide +kernel
theorem dX4_payOthers_110 : decode cX4_payOthers 110 = .ok (.if_icmp .gt 22, 3) := by decide +kernel
theorem dX4_payOthers_113 : decode cX4_payOthers 113 = .ok (.aload_n 0, 1) := by decide +kernel
theorem dX4_payOthers_114 : decode cX4_payOthers 114 = .ok (.getfield 19, 3) := by decide +kernel
theorem dX4_payOthers_117 : decode cX4_payOthers 117 = .ok (.iload 8, 2) := by decide +kernel
theorem dX4_payOthers_119 : decode cX4_payOthers 119 = .ok (.iaload, 1) := by decide +kernel
theorem dX4_payOthers_120 : decode cX4_payOthers 120 = .ok (.iload 5, 2) := by decide +kernel
theorem dX4_payOthers_122 : decode cX4_payOthers 122 = .ok (.if_icmp .ne 14, 3) := by decide +kernel
theorem dX4_payOthers_125 : decode cX4_payOthers 125 = .ok (.iload 8, 2) := by decide +kernel
theorem dX4_payOthers_127 : decode cX4_payOthers 127 = .ok (.iload 4, 2) := by decide +kernel
theorem dX4_payOthers_129 : decode cX4_payOthers 129 = .ok (.if_icmp .le 7, 3) := by decide +kernel
theorem dX4_payOthers_132 : decode cX4_payOthers 132 = .ok (.iconst 1, 1) := by decide +kernel
theorem dX4_payOthers_133 : decode cX4_payOthers 133 = .ok (.goto 4, 3) := by decide +kernel
theorem dX4_payOthers_136 : decode cX4_payOthers 136 = .ok (.iconst 0, 1) := by decide +kernel
theorem dX4_payOthers_137 : decode cX4_payOthers 137 = .ok (.istore 9, 2) := by decide +kernel
theorem dX4_payOthers_139 : decode cX4_payOthers 139 = .ok (.aload_n 0, 1) := by decide +kernel
theorem dX4_payOthers_140 : decode cX4_payOthers 140 = .ok (.getfield 7, 3) := by decide +kernel
theorem dX4_payOthers_143 : decode cX4_payOthers 143 = .ok (.iload 8, 2) := by decide +kernel
theorem dX4_payOthers_145 : decode cX4_payOthers 145 = .ok (.iaload, 1) := by decide +kernel
theorem dX4_payOthers_146 : decode cX4_payOthers 146 = .ok (.iload_n 2, 1) := by decide +kernel
theorem dX4_payOthers_147 : decode cX4_payOthers 147 = .ok (.if_icmp .ne 21, 3) := by decide +kernel
theorem dX4_payOthers_150 : decode cX4_payOthers 150 = .ok (.aload_n 0, 1) := by decide +kernel
theorem dX4_payOthers_151 : decode cX4_payOthers 151 = .ok (.iload 8, 2) := by decide +kernel
theorem dX4_payOthers_153 : decode cX4_payOthers 153 = .ok (.invokevirtual 85, 3) := by decide +kernel
theorem dX4_payOthers_156 : decode cX4_payOthers 156 = .ok (.ifCond .le 12, 3) := by decide +kernel
theorem dX4_payOthers_159 : decode cX4_payOthers 159 = .ok (.iload 9, 2) := by decide +kernel
theorem dX4_payOthers_161 : decode cX4_payOthers 161 = .ok (.ifCond .eq 7, 3) := by decide +kernel
theorem dX4_payOthers_164 : decode cX4_payOthers 164 = .ok (.iconst 1, 1) := by decide +kernel
theorem dX4_payOthers_165 : decode cX4_payOthers 165 = .ok (.goto 4, 3) := by decide +kernel
theorem dX4_payOthers_168 : decode cX4_payOthers 168 = .ok (.iconst 0, 1) := by decide +kernel
theorem dX4_payOthers_169 : decode cX4_payOthers 169 = .ok (.istore 10, 2) := by decide +kernel
theorem dX4_payOthers_171 : decode cX4_payOthers 171 = .ok (.iload 10, 2) := by decide +kernel
theorem dX4_payOthers_173 : decode cX4_payOthers 173 = .ok (.ifCond .eq 31, 3) := by decide +kernel
theorem dX4_payOthers_176 : decode cX4_payOthers 176 = .ok (.iload 7, 2) := by decide +kernel
theorem dX4_payOthers_178 : decode cX4_payOthers 178 = .ok (.iconst (-1), 1) := by decide +kernel
theorem dX4_payOthers_179 : decode cX4_payOthers 179 = .ok (.if_icmp .eq 20, 3) := by decide +kernel
theorem dX4_payOthers_182 : decode cX4_payOthers 182 = .ok (.aload_n 0, 1) := by decide +kernel
theorem dX4_payOthers_183 : decode cX4_payOthers 183 = .ok (.getfield 19, 3) := by decide +kernel
theorem dX4_payOthers_186 : decode cX4_payOthers 186 = .ok (.iload 8, 2) := by decide +kernel
theorem dX4_payOthers_188 : decode cX4_payOthers 188 = .ok (.iaload, 1) := by decide +kernel
theorem dX4_payOthers_189 : decode cX4_payOthers 189 = .ok (.aload_n 0, 1) := by decide +kernel
theorem dX4_payOthers_190 : decode cX4_payOthers 190 = .ok (.getfield 19, 3) := by decide +kernel
theorem dX4_payOthers_193 : decode cX4_payOthers 193 = .ok (.iload 7, 2) := by decide +kernel
theorem dX4_payOthers_195 : decode cX4_payOthers 195 = .ok (.iaload, 1) := by decide +kernel
theorem dX4_payOthers_196 : decode cX4_payOthers 196 = .ok (.if_icmp .ge 8, 3) := by decide +kernel
theorem dX4_payOthers_199 : decode cX4_payOthers 199 = .ok (.iload 8, 2) := by decide +kernel
theorem dX4_payOthers_201 : decode cX4_payOthers 201 = .ok (.goto 5, 3) := by decide +kernel
theorem dX4_payOthers_204 : decode cX4_payOthers 204 = .ok (.iload 7, 2) := by decide +kernel
theorem dX4_payOthers_206 : decode cX4_payOthers 206 = .ok (.istore 7, 2) := by decide +kernel
theorem dX4_payOthers_208 : decode cX4_payOthers 208 = .ok (.iinc 8 1, 3) := by decide +kernel
theorem dX4_payOthers_211 : decode cX4_payOthers 211 = .ok (.goto (-119), 3) := by decide +kernel
theorem dX4_payOthers_214 : decode cX4_payOthers 214 = .ok (.iload 7, 2) := by decide +kernel
theorem dX4_payOthers_216 : decode cX4_payOthers 216 = .ok (.iconst (-1), 1) := by decide +kernel
theorem dX4_payOthers_217 : decode cX4_payOthers 217 = .ok (.if_icmp .eq 7, 3) := by decide +kernel
theorem dX4_payOthers_220 : decode cX4_payOthers 220 = .ok (.iconst 1, 1) := by decide +kernel
theorem dX4_payOthers_221 : decode cX4_payOthers 221 = .ok (.goto 4, 3) := by decide +kernel
theorem dX4_payOthers_224 : decode cX4_payOthers 224 = .ok (.iconst 0, 1) := by decide +kernel
theorem dX4_payOthers_225 : decode cX4_payOthers 225 = .ok (.istore 6, 2) := by decide +kernel
theorem dX4_payOthers_227 : decode cX4_payOthers 227 = .ok (.iload 6, 2) := by decide +kernel
theorem dX4_payOthers_229 : decode cX4_payOthers 229 = .ok (.ifCond .eq 24, 3) := by decide +kernel
theorem dX4_payOthers_232 : decode cX4_payOthers 232 = .ok (.aload_n 0, 1) := by decide +kernel
theorem dX4_payOthers_233 : decode cX4_payOthers 233 = .ok (.iload_n 1, 1) := by decide +kernel
theorem dX4_payOthers_234 : decode cX4_payOthers 234 = .ok (.iload 7, 2) := by decide +kernel
theorem dX4_payOthers_236 : decode cX4_payOthers 236 = .ok (.invokevirtual 100, 3) := by decide +kernel
theorem dX4_payOthers_239 : decode cX4_payOthers 239 = .ok (.pop, 1) := by decide +kernel
theorem dX4_payOthers_240 : decode cX4_payOthers 240 = .ok (.iload 7, 2) := by decide +kernel
theorem dX4_payOthers_242 : decode cX4_payOthers 242 = .ok (.istore 4, 2) := by decide +kernel
theorem dX4_payOthers_244 : decode cX4_payOthers 244 = .ok (.aload_n 0, 1) := by decide +kernel
theorem dX4_payOthers_245 : decode cX4_payOthers 245 = .ok (.getfield 19, 3) := by decide +kernel
theorem dX4_payOthers_248 : decode cX4_payOthers 248 = .ok (.iload 7, 2) := by decide +kernel
theorem dX4_payOthers_250 : decode cX4_payOthers 250 = .ok (.iaload, 1) := by decide +kernel
theorem dX4_payOthers_251 : decode cX4_payOthers 251 = .ok (.istore 5, 2) := by decide +kernel
theorem dX4_payOthers_253 : decode cX4_payOthers 253 = .ok (.goto (-181), 3) := by decide +kernel
theorem dX4_payOthers_256 : decode cX4_payOthers 256 = .ok (.return_, 1) := by decide +kernel
theorem dX4_bill_0 : decode cX4_bill 0 = .ok (.iload_n 2, 1) := by decide +kernel
theorem dX4_bill_1 : decode cX4_bill 1 = .ok (.iconst 1, 1) := by decide +kernel
theorem dX4_bill_2 : decode cX4_bill 2 = .ok (.ldc 120, 2) := by decide +kernel
theorem dX4_bill_4 : decode cX4_bill 4 = .ok (.invokestatic 75, 3) := by decide +kernel
theorem dX4_bill_7 : decode cX4_bill 7 = .ok (.ifCond .eq 41, 3) := by decide +kernel
theorem dX4_bill_10 : decode cX4_bill 10 = .ok (.iload_n 3, 1) := by decide +kernel
theorem dX4_bill_11 : decode cX4_bill 11 = .ok (.iconst 1, 1) := by decide +kernel
theorem dX4_bill_12 : decode cX4_bill 12 = .ok (.sipush 9999, 3) := by decide +kernel
theorem dX4_bill_15 : decode cX4_bill 15 = .ok (.invokestatic 75, 3) := by decide +kernel
theorem dX4_bill_18 : decode cX4_bill 18 = .ok (.ifCond .eq 30, 3) := by decide +kernel
theorem dX4_bill_21 : decode cX4_bill 21 = .ok (.iload 4, 2) := by decide +kernel
theorem dX4_bill_23 : decode cX4_bill 23 = .ok (.iconst 0, 1) := by decide +kernel
theorem dX4_bill_24 : decode cX4_bill 24 = .ok (.sipush 10000, 3) := by decide +kernel
theorem dX4_bill_27 : decode cX4_bill 27 = .ok (.invokestatic 75, 3) := by decide +kernel
theorem dX4_bill_30 : decode cX4_bill 30 = .ok (.ifCond .eq 18, 3) := by decide +kernel
theorem dX4_bill_33 : decode cX4_bill 33 = .ok (.iload 5, 2) := by decide +kernel
theorem dX4_bill_35 : decode cX4_bill 35 = .ok (.iconst 0, 1) := by decide +kernel
theorem dX4_bill_36 : decode cX4_bill 36 = .ok (.bipush 90, 2) := by decide +kernel
theorem dX4_bill_38 : decode cX4_bill 38 = .ok (.invokestatic 75, 3) := by decide +kernel
theorem dX4_bill_41 : decode cX4_bill 41 = .ok (.ifCond .eq 7, 3) := by decide +kernel
theorem dX4_bill_44 : decode cX4_bill 44 = .ok (.iconst 1, 1) := by decide +kernel
theorem dX4_bill_45 : decode cX4_bill 45 = .ok (.goto 4, 3) := by decide +kernel
theorem dX4_bill_48 : decode cX4_bill 48 = .ok (.iconst 0, 1) := by decide +kernel
theorem dX4_bill_49 : decode cX4_bill 49 = .ok (.istore 6, 2) := by decide +kernel
theorem dX4_bill_51 : decode cX4_bill 51 = .ok (.aload_n 0, 1) := by decide +kernel
theorem dX4_bill_52 : decode cX4_bill 52 = .ok (.iload_n 1, 1) := by decide +kernel
theorem dX4_bill_53 : decode cX4_bill 53 = .ok (.invokestatic 121, 3) := by decide +kernel
theorem dX4_bill_56 : decode cX4_bill 56 = .ok (.ifCond .ne 7, 3) := by decide +kernel
theorem dX4_bill_59 : decode cX4_bill 59 = .ok (.iconst 1, 1) := by decide +kernel
theorem dX4_bill_60 : decode cX4_bill 60 = .ok (.goto 26, 3) := by decide +kernel
theorem dX4_bill_63 : decode cX4_bill 63 = .ok (.iload 6, 2) := by decide +kernel
theorem dX4_bill_65 : decode cX4_bill 65 = .ok (.ifCond .ne 7, 3) := by decide +kernel
theorem dX4_bill_68 : decode cX4_bill 68 = .ok (.iconst 2, 1) := by decide +kernel
theorem dX4_bill_69 : decode cX4_bill 69 = .ok (.goto 17, 3) := by decide +kernel
theorem dX4_bill_72 : decode cX4_bill 72 = .ok (.aload_n 0, 1) := by decide +kernel
theorem dX4_bill_73 : decode cX4_bill 73 = .ok (.getfield 79, 3) := by decide +kernel
theorem dX4_bill_76 : decode cX4_bill 76 = .ok (.bipush 40, 2) := by decide +kernel
theorem dX4_bill_78 : decode cX4_bill 78 = .ok (.if_icmp .ne 7, 3) := by decide +kernel
theorem dX4_bill_81 : decode cX4_bill 81 = .ok (.iconst 3, 1) := by decide +kernel
theorem dX4_bill_82 : decode cX4_bill 82 = .ok (.goto 4, 3) := by decide +kernel
theorem dX4_bill_85 : decode cX4_bill 85 = .ok (.iconst 0, 1) := by decide +kernel
theorem dX4_bill_86 : decode cX4_bill 86 = .ok (.invokevirtual 124, 3) := by decide +kernel
theorem dX4_bill_89 : decode cX4_bill 89 = .ok (.ifCond .eq 5, 3) := by decide +kernel
theorem dX4_bill_92 : decode cX4_bill 92 = .ok (.iconst 0, 1) := by decide +kernel
theorem dX4_bill_93 : decode cX4_bill 93 = .ok (.ireturn, 1) := by decide +kernel
theorem dX4_bill_94 : decode cX4_bill 94 = .ok (.aload_n 0, 1) := by decide +kernel
theorem dX4_bill_95 : decode cX4_bill 95 = .ok (.getfield 7, 3) := by decide +kernel
theorem dX4_bill_98 : decode cX4_bill 98 = .ok (.aload_n 0, 1) := by decide +kernel
theorem dX4_bill_99 : decode cX4_bill 99 = .ok (.getfield 79, 3) := by decide +kernel
theorem dX4_bill_102 : decode cX4_bill 102 = .ok (.iload_n 1, 1) := by decide +kernel
theorem dX4_bill_103 : decode cX4_bill 103 = .ok (.iastore, 1) := by decide +kernel
theorem dX4_bill_104 : decode cX4_bill 104 = .ok (.aload_n 0, 1) := by decide +kernel
theorem dX4_bill_105 : decode cX4_bill 105 = .ok (.getfield 13, 3) := by decide +kernel
theorem dX4_bill_108 : decode cX4_bill 108 = .ok (.aload_n 0, 1) := by decide +kernel
theorem dX4_bill_109 : decode cX4_bill 109 = .ok (.getfield 79, 3) := by decide +kernel
theorem dX4_bill_112 : decode cX4_bill 112 = .ok (.iload_n 2, 1) := by decide +kernel
theorem dX4_bill_113 : decode cX4_bill 113 = .ok (.iastore, 1) := by decide +kernel
theorem dX4_bill_114 : decode cX4_bill 114 = .ok (.aload_n 0, 1) := by decide +kernel
theorem dX4_bill_115 : decode cX4_bill 115 = .ok (.getfield 16, 3) := by decide +kernel
theorem dX4_bill_118 : decode cX4_bill 118 = .ok (.aload_n 0, 1) := by decide +kernel
theorem dX4_bill_119 : decode cX4_bill 119 = .ok (.getfield 79, 3) := by decide +kernel
theorem dX4_bill_122 : decode cX4_bill 122 = .ok (.iload_n 3, 1) := by decide +kernel
theorem dX4_bill_123 : decode cX4_bill 123 = .ok (.iastore, 1) := by decide +kernel
theorem dX4_bill_124 : decode cX4_bill 124 = .ok (.aload_n 0, 1) := by decide +kernel
theorem dX4_bill_125 : decode cX4_bill 125 = .ok (.getfield 19, 3) := by decide +kernel
theorem dX4_bill_128 : decode cX4_bill 128 = .ok (.aload_n 0, 1) := by decide +kernel
theorem dX4_bill_129 : decode cX4_bill 129 = .ok (.getfield 79, 3) := by decide +kernel
theorem dX4_bill_132 : decode cX4_bill 132 = .ok (.aload_n 0, 1) := by decide +kernel
theorem dX4_bill_133 : decode cX4_bill 133 = .ok (.getfield 89, 3) := by decide +kernel
theorem dX4_bill_136 : decode cX4_bill 136 = .ok (.iastore, 1) := by decide +kernel
theorem dX4_bill_137 : decode cX4_bill 137 = .ok (.aload_n 0, 1) := by decide +kernel
theorem dX4_bill_138 : decode cX4_bill 138 = .ok (.getfield 22, 3) := by decide +kernel
theorem dX4_bill_141 : decode cX4_bill 141 = .ok (.aload_n 0, 1) := by decide +kernel
theorem dX4_bill_142 : decode cX4_bill 142 = .ok (.getfield 79, 3) := by decide +kernel
theorem dX4_bill_145 : decode cX4_bill 145 = .ok (.iload 4, 2) := by decide +kernel
theorem dX4_bill_147 : decode cX4_bill 147 = .ok (.iastore, 1) := by decide +kernel
theorem dX4_bill_148 : decode cX4_bill 148 = .ok (.aload_n 0, 1) := by decide +kernel
theorem dX4_bill_149 : decode cX4_bill 149 = .ok (.getfield 25, 3) := by decide +kernel
theorem dX4_bill_152 : decode cX4_bill 152 = .ok (.aload_n 0, 1) := by decide +kernel
theorem dX4_bill_153 : decode cX4_bill 153 = .ok (.getfield 79, 3) := by decide +kernel
theorem dX4_bill_156 : decode cX4_bill 156 = .ok (.iload 5, 2) := by decide +kernel
theorem dX4_bill_158 : decode cX4_bill 158 = .ok (.iastore, 1) := by decide +kernel
theorem dX4_bill_159 : decode cX4_bill 159 = .ok (.aload_n 0, 1) := by decide +kernel
theorem dX4_bill_160 : decode cX4_bill 160 = .ok (.getfield 34, 3) := by decide +kernel
theorem dX4_bill_163 : decode cX4_bill 163 = .ok (.aload_n 0, 1) := by decide +kernel
theorem dX4_bill_164 : decode cX4_bill 164 = .ok (.getfield 79, 3) := by decide +kernel
theorem dX4_bill_167 : decode cX4_bill 167 = .ok (.iconst (-1), 1) := by decide +kernel
theorem dX4_bill_168 : decode cX4_bill 168 = .ok (.iastore, 1) := by decide +kernel
theorem dX4_bill_169 : decode cX4_bill 169 = .ok (.aload_n 0, 1) := by decide +kernel
theorem dX4_bill_170 : decode cX4_bill 170 = .ok (.getfield 40, 3) := by decide +kernel
theorem dX4_bill_173 : decode cX4_bill 173 = .ok (.aload_n 0, 1) := by decide +kernel
theorem dX4_bill_174 : decode cX4_bill 174 = .ok (.getfield 79, 3) := by decide +kernel
theorem dX4_bill_177 : decode cX4_bill 177 = .ok (.iconst (-1), 1) := by decide +kernel
theorem dX4_bill_178 : decode cX4_bill 178 = .ok (.iastore, 1) := by decide +kernel
theorem dX4_bill_179 : decode cX4_bill 179 = .ok (.aload_n 0, 1) := by decide +kernel
theorem dX4_bill_180 : decode cX4_bill 180 = .ok (.dup, 1) := by decide +kernel
theorem dX4_bill_181 : decode cX4_bill 181 = .ok (.getfield 79, 3) := by decide +kernel
theorem dX4_bill_184 : decode cX4_bill 184 = .ok (.iconst 1, 1) := by decide +kernel
theorem dX4_bill_185 : decode cX4_bill 185 = .ok (.iadd, 1) := by decide +kernel
theorem dX4_bill_186 : decode cX4_bill 186 = .ok (.putfield 79, 3) := by decide +kernel
theorem dX4_bill_189 : decode cX4_bill 189 = .ok (.aload_n 0, 1) := by decide +kernel
theorem dX4_bill_190 : decode cX4_bill 190 = .ok (.getfield 79, 3) := by decide +kernel
theorem dX4_bill_193 : decode cX4_bill 193 = .ok (.iconst 1, 1) := by decide +kernel
theorem dX4_bill_194 : decode cX4_bill 194 = .ok (.isub, 1) := by decide +kernel
theorem dX4_bill_195 : decode cX4_bill 195 = .ok (.ireturn, 1) := by decide +kernel
theorem dX4_receive_0 : decode cX4_receive 0 = .ok (.iload_n 2, 1) := by decide +kernel
theorem dX4_receive_1 : decode cX4_receive 1 = .ok (.iconst 1, 1) := by decide +kernel
theorem dX4_receive_2 : decode cX4_receive 2 = .ok (.ldc 120, 2) := by decide +kernel
theorem dX4_receive_4 : decode cX4_receive 4 = .ok (.invokestatic 75, 3) := by decide +kernel
theorem dX4_receive_7 : decode cX4_receive 7 = .ok (.ifCond .eq 18, 3) := by decide +kernel
theorem dX4_receive_10 : decode cX4_receive 10 = .ok (.iload_n 3, 1) := by decide +kernel
theorem dX4_receive_11 : decode cX4_receive 11 = .ok (.iconst 0, 1) := by decide +kernel
theorem dX4_receive_12 : decode cX4_receive 12 = .ok (.sipush 9999, 3) := by decide +kernel
theorem dX4_receive_15 : decode cX4_receive 15 = .ok (.invokestatic 75, 3) := by decide +kernel
theorem dX4_receive_18 : decode cX4_receive 18 = .ok (.ifCond .eq 7, 3) := by decide +kernel
theorem dX4_receive_21 : decode cX4_receive 21 = .ok (.iconst 1, 1) := by decide +kernel
theorem dX4_receive_22 : decode cX4_receive 22 = .ok (.goto 4, 3) := by decide +kernel
theorem dX4_receive_25 : decode cX4_receive 25 = .ok (.iconst 0, 1) := by decide +kernel
theorem dX4_receive_26 : decode cX4_receive 26 = .ok (.istore 4, 2) := by decide +kernel
theorem dX4_receive_28 : decode cX4_receive 28 = .ok (.aload_n 0, 1) := by decide +kernel
theorem dX4_receive_29 : decode cX4_receive 29 = .ok (.iload_n 1, 1) := by decide +kernel
theorem dX4_receive_30 : decode cX4_receive 30 = .ok (.iconst (-1), 1) := by decide +kernel
theorem dX4_receive_31 : decode cX4_receive 31 = .ok (.if_icmp .eq 14, 3) := by decide +kernel
theorem dX4_receive_34 : decode cX4_receive 34 = .ok (.iload_n 1, 1) := by decide +kernel
theorem dX4_receive_35 : decode cX4_receive 35 = .ok (.invokestatic 121, 3) := by decide +kernel
theorem dX4_receive_38 : decode cX4_receive 38 = .ok (.ifCond .ne 7, 3) := by decide +kernel
theorem dX4_receive_41 : decode cX4_receive 41 = .ok (.iconst 1, 1) := by decide +kernel
theorem dX4_receive_42 : decode cX4_receive 42 = .ok (.goto 26, 3) := by decide +kernel
theorem dX4_receive_45 : decode cX4_receive 45 = .ok (.iload 4, 2) := by decide +kernel
theorem dX4_receive_47 : decode cX4_receive 47 = .ok (.ifCond .ne 7, 3) := by decide +kernel
theorem dX4_receive_50 : decode cX4_receive 50 = .ok (.iconst 2, 1) := by decide +kernel
theorem dX4_receive_51 : decode cX4_receive 51 = .ok (.goto 17, 3) := by decide +kernel
theorem dX4_receive_54 : decode cX4_receive 54 = .ok (.aload_n 0, 1) := by decide +kernel
theorem dX4_receive_55 : decode cX4_receive 55 = .ok (.getfield 82, 3) := by decide +kernel
theorem dX4_receive_58 : decode cX4_receive 58 = .ok (.bipush 30, 2) := by decide +kernel
theorem dX4_receive_60 : decode cX4_receive 60 = .ok (.if_icmp .ne 7, 3) := by decide +kernel
theorem dX4_receive_63 : decode cX4_receive 63 = .ok (.iconst 3, 1) := by decide +kernel
theorem dX4_receive_64 : decode cX4_receive 64 = .ok (.goto 4, 3) := by decide +kernel
theorem dX4_receive_67 : decode cX4_receive 67 = .ok (.iconst 0, 1) := by decide +kernel
theorem dX4_receive_68 : decode cX4_receive 68 = .ok (.invokevirtual 124, 3) := by decide +kernel
theorem dX4_receive_71 : decode cX4_receive 71 = .ok (.ifCond .eq 5, 3) := by decide +kernel
theorem dX4_receive_74 : decode cX4_receive 74 = .ok (.iconst 0, 1) := by decide +kernel
theorem dX4_receive_75 : decode cX4_receive 75 = .ok (.ireturn, 1) := by decide +kernel
theorem dX4_receive_76 : decode cX4_receive 76 = .ok (.aload_n 0, 1) := by decide +kernel
theorem dX4_receive_77 : decode cX4_receive 77 = .ok (.getfield 82, 3) := by decide +kernel
theorem dX4_receive_80 : decode cX4_receive 80 = .ok (.istore 5, 2) := by decide +kernel
theorem dX4_receive_82 : decode cX4_receive 82 = .ok (.aload_n 0, 1) := by decide +kernel
theorem dX4_receive_83 : decode cX4_receive 83 = .ok (.dup, 1) := by decide +kernel
theorem dX4_receive_84 : decode cX4_receive 84 = .ok (.getfield 82, 3) := by decide +kernel
theorem dX4_receive_87 : decode cX4_receive 87 = .ok (.iconst 1, 1) := by decide +kernel
theorem dX4_receive_88 : decode cX4_receive 88 = .ok (.iadd, 1) := by decide +kernel
theorem dX4_receive_89 : decode cX4_receive 89 = .ok (.putfield 82, 3) := by decide +kernel
theorem dX4_receive_92 : decode cX4_receive 92 = .ok (.aload_n 0, 1) := by decide +kernel
theorem dX4_receive_93 : decode cX4_receive 93 = .ok (.getfield 46, 3) := by decide +kernel
theorem dX4_receive_96 : decode cX4_receive 96 = .ok (.iload 5, 2) := by decide +kernel
theorem dX4_receive_98 : decode cX4_receive 98 = .ok (.iload_n 2, 1) := by decide +kernel
theorem dX4_receive_99 : decode cX4_receive 99 = .ok (.iastore, 1) := by decide +kernel
theorem dX4_receive_100 : decode cX4_receive 100 = .ok (.aload_n 0, 1) := by decide +kernel
theorem dX4_receive_101 : decode cX4_receive 101 = .ok (.getfield 49, 3) := by decide +kernel
theorem dX4_receive_104 : decode cX4_receive 104 = .ok (.iload 5, 2) := by decide +kernel
theorem dX4_receive_106 : decode cX4_receive 106 = .ok (.iload_n 1, 1) := by decide +kernel
theorem dX4_receive_107 : decode cX4_receive 107 = .ok (.iastore, 1) := by decide +kernel
theorem dX4_receive_108 : decode cX4_receive 108 = .ok (.aload_n 0, 1) := by decide +kernel
theorem dX4_receive_109 : decode cX4_receive 109 = .ok (.getfield 52, 3) := by decide +kernel
theorem dX4_receive_112 : decode cX4_receive 112 = .ok (.iload 5, 2) := by decide +kernel
theorem dX4_receive_114 : decode cX4_receive 114 = .ok (.iload_n 2, 1) := by decide +kernel
theorem dX4_receive_115 : decode cX4_receive 115 = .ok (.iastore, 1) := by decide +kernel
theorem dX4_receive_116 : decode cX4_receive 116 = .ok (.iload_n 3, 1) := by decide +kernel
theorem dX4_receive_117 : decode cX4_receive 117 = .ok (.ifCond .le 10, 3) := by decide +kernel
theorem dX4_receive_120 : decode cX4_receive 120 = .ok (.aload_n 0, 1) := by decide +kernel
theorem dX4_receive_121 : decode cX4_receive 121 = .ok (.iload 5, 2) := by decide +kernel
theorem dX4_receive_123 : decode cX4_receive 123 = .ok (.iload_n 3, 1) := by decide +kernel
theorem dX4_receive_124 : decode cX4_receive 124 = .ok (.invokevirtual 127, 3) := by decide +kernel
theorem dX4_receive_127 : decode cX4_receive 127 = .ok (.aload_n 0, 1) := by decide +kernel
theorem dX4_receive_128 : decode cX4_receive 128 = .ok (.iload 5, 2) := by decide +kernel
theorem dX4_receive_130 : decode cX4_receive 130 = .ok (.invokevirtual 130, 3) := by decide +kernel
theorem dX4_receive_133 : decode cX4_receive 133 = .ok (.iload 5, 2) := by decide +kernel
theorem dX4_receive_135 : decode cX4_receive 135 = .ok (.ireturn, 1) := by decide +kernel
theorem dX4_assign_0 : decode cX4_assign 0 = .ok (.aload_n 0, 1) := by decide +kernel
theorem dX4_assign_1 : decode cX4_assign 1 = .ok (.iload_n 1, 1) := by decide +kernel
theorem dX4_assign_2 : decode cX4_assign 2 = .ok (.invokevirtual 134, 3) := by decide +kernel
theorem dX4_assign_5 : decode cX4_assign 5 = .ok (.ifCond .eq 14, 3) := by decide +kernel
theorem dX4_assign_8 : decode cX4_assign 8 = .ok (.iload_n 2, 1) := by decide +kernel
theorem dX4_assign_9 : decode cX4_assign 9 = .ok (.invokestatic 121, 3) := by decide +kernel
theorem dX4_assign_12 : decode cX4_assign 12 = .ok (.ifCond .eq 7, 3) := by decide +kernel
theorem dX4_assign_15 : decode cX4_assign 15 = .ok (.iconst 1, 1) := by decide +kernel
theorem dX4_assign_16 : decode cX4_assign 16 = .ok (.goto 4, 3) := by decide +kernel
theorem dX4_assign_19 : decode cX4_assign 19 = .ok (.iconst 0, 1) := by decide +kernel
theorem dX4_assign_20 : decode cX4_assign 20 = .ok (.istore_n 3, 1) := by decide +kernel
theorem dX4_assign_21 : decode cX4_assign 21 = .ok (.aload_n 0, 1) := by decide +kernel
theorem dX4_assign_22 : decode cX4_assign 22 = .ok (.iload_n 3, 1) := by decide +kernel
theorem dX4_assign_23 : decode cX4_assign 23 = .ok (.ifCond .ne 7, 3) := by decide +kernel
theorem dX4_assign_26 : decode cX4_assign 26 = .ok (.iconst 1, 1) := by decide +kernel
theorem dX4_assign_27 : decode cX4_assign 27 = .ok (.goto 27, 3) := by decide +kernel
theorem dX4_assign_30 : decode cX4_assign 30 = .ok (.aload_n 0, 1) := by decide +kernel
theorem dX4_assign_31 : decode cX4_assign 31 = .ok (.getfield 49, 3) := by decide +kernel
theorem dX4_assign_34 : decode cX4_assign 34 = .ok (.iload_n 1, 1) := by decide +kernel
theorem dX4_assign_35 : decode cX4_assign 35 = .ok (.iaload, 1) := by decide +kernel
theorem dX4_assign_36 : decode cX4_assign 36 = .ok (.iconst (-1), 1) := by decide +kernel
theorem dX4_assign_37 : decode cX4_assign 37 = .ok (.if_icmp .ne 12, 3) := by decide +kernel
theorem dX4_assign_40 : decode cX4_assign 40 = .ok (.aload_n 0, 1) := by decide +kernel
theorem dX4_assign_41 : decode cX4_assign 41 = .ok (.getfield 58, 3) := by decide +kernel
theorem dX4_assign_44 : decode cX4_assign 44 = .ok (.iload_n 1, 1) := by decide +kernel
theorem dX4_assign_45 : decode cX4_assign 45 = .ok (.baload, 1) := by decide +kernel
theorem dX4_assign_46 : decode cX4_assign 46 = .ok (.ifCond .eq 7, 3) := by decide +kernel
theorem dX4_assign_49 : decode cX4_assign 49 = .ok (.iconst 2, 1) := by decide +kernel
theorem dX4_assign_50 : decode cX4_assign 50 = .ok (.goto 4, 3) := by decide +kernel
theorem dX4_assign_53 : decode cX4_assign 53 = .ok (.iconst 0, 1) := by decide +kernel
theorem dX4_assign_54 : decode cX4_assign 54 = .ok (.invokevirtual 124, 3) := by decide +kernel
theorem dX4_assign_57 : decode cX4_assign 57 = .ok (.ifCond .eq 5, 3) := by decide +kernel
theorem dX4_assign_60 : decode cX4_assign 60 = .ok (.iconst 0, 1) := by decide +kernel
theorem dX4_assign_61 : decode cX4_assign 61 = .ok (.ireturn, 1) := by decide +kernel
theorem dX4_assign_62 : decode cX4_assign 62 = .ok (.aload_n 0, 1) := by decide +kernel
theorem dX4_assign_63 : decode cX4_assign 63 = .ok (.getfield 49, 3) := by decide +kernel
theorem dX4_assign_66 : decode cX4_assign 66 = .ok (.iload_n 1, 1) := by decide +kernel
theorem dX4_assign_67 : decode cX4_assign 67 = .ok (.iload_n 2, 1) := by decide +kernel
theorem dX4_assign_68 : decode cX4_assign 68 = .ok (.iastore, 1) := by decide +kernel
theorem dX4_assign_69 : decode cX4_assign 69 = .ok (.aload_n 0, 1) := by decide +kernel
theorem dX4_assign_70 : decode cX4_assign 70 = .ok (.iload_n 1, 1) := by decide +kernel
theorem dX4_assign_71 : decode cX4_assign 71 = .ok (.invokevirtual 130, 3) := by decide +kernel
theorem dX4_assign_74 : decode cX4_assign 74 = .ok (.aload_n 0, 1) := by decide +kernel
theorem dX4_assign_75 : decode cX4_assign 75 = .ok (.getfield 52, 3) := by decide +kernel
theorem dX4_assign_78 : decode cX4_assign 78 = .ok (.iload_n 1, 1) := by decide +kernel
theorem dX4_assign_79 : decode cX4_assign 79 = .ok (.iaload, 1) := by decide +kernel
theorem dX4_assign_80 : decode cX4_assign 80 = .ok (.ireturn, 1) := by decide +kernel
theorem dX4_apply_0 : decode cX4_apply 0 = .ok (.aload_n 0, 1) := by decide +kernel
theorem dX4_apply_1 : decode cX4_apply 1 = .ok (.aload_n 0, 1) := by decide +kernel
theorem dX4_apply_2 : decode cX4_apply 2 = .ok (.iload_n 1, 1) := by decide +kernel
theorem dX4_apply_3 : decode cX4_apply 3 = .ok (.invokevirtual 134, 3) := by decide +kernel
theorem dX4_apply_6 : decode cX4_apply 6 = .ok (.ifCond .ne 7, 3) := by decide +kernel
theorem dX4_apply_9 : decode cX4_apply 9 = .ok (.iconst 1, 1) := by decide +kernel
theorem dX4_apply_10 : decode cX4_apply 10 = .ok (.goto 27, 3) := by decide +kernel
theorem dX4_apply_13 : decode cX4_apply 13 = .ok (.aload_n 0, 1) := by decide +kernel
theorem dX4_apply_14 : decode cX4_apply 14 = .ok (.getfield 49, 3) := by decide +kernel
theorem dX4_apply_17 : decode cX4_apply 17 = .ok (.iload_n 1, 1) := by decide +kernel
theorem dX4_apply_18 : decode cX4_apply 18 = .ok (.iaload, 1) := by decide +kernel
theorem dX4_apply_19 : decode cX4_apply 19 = .ok (.iconst (-1), 1) := by decide +kernel
theorem dX4_apply_20 : decode cX4_apply 20 = .ok (.if_icmp .eq 12, 3) := by decide +kernel
theorem dX4_apply_23 : decode cX4_apply 23 = .ok (.aload_n 0, 1) := by decide +kernel
theorem dX4_apply_24 : decode cX4_apply 24 = .ok (.getfield 58, 3) := by decide +kernel
theorem dX4_apply_27 : decode cX4_apply 27 = .ok (.iload_n 1, 1) := by decide +kernel
theorem dX4_apply_28 : decode cX4_apply 28 = .ok (.baload, 1) := by decide +kernel
theorem dX4_apply_29 : decode cX4_apply 29 = .ok (.ifCond .eq 7, 3) := by decide +kernel
theorem dX4_apply_32 : decode cX4_apply 32 = .ok (.iconst 2, 1) := by decide +kernel
theorem dX4_apply_33 : decode cX4_apply 33 = .ok (.goto 4, 3) := by decide +kernel
theorem dX4_apply_36 : decode cX4_apply 36 = .ok (.iconst 0, 1) := by decide +kernel
theorem dX4_apply_37 : decode cX4_apply 37 = .ok (.invokevirtual 124, 3) := by decide +kernel
theorem dX4_apply_40 : decode cX4_apply 40 = .ok (.ifCond .eq 5, 3) := by decide +kernel
theorem dX4_apply_43 : decode cX4_apply 43 = .ok (.iconst 0, 1) := by decide +kernel
theorem dX4_apply_44 : decode cX4_apply 44 = .ok (.ireturn, 1) := by decide +kernel
theorem dX4_apply_45 : decode cX4_apply 45 = .ok (.aload_n 0, 1) := by decide +kernel
theorem dX4_apply_46 : decode cX4_apply 46 = .ok (.iload_n 1, 1) := by decide +kernel
theorem dX4_apply_47 : decode cX4_apply 47 = .ok (.invokevirtual 130, 3) := by decide +kernel
theorem dX4_apply_50 : decode cX4_apply 50 = .ok (.aload_n 0, 1) := by decide +kernel
theorem dX4_apply_51 : decode cX4_apply 51 = .ok (.getfield 52, 3) := by decide +kernel
theorem dX4_apply_54 : decode cX4_apply 54 = .ok (.iload_n 1, 1) := by decide +kernel
theorem dX4_apply_55 : decode cX4_apply 55 = .ok (.iaload, 1) := by decide +kernel
theorem dX4_apply_56 : decode cX4_apply 56 = .ok (.ireturn, 1) := by decide +kernel
theorem dX4_payBack_0 : decode cX4_payBack 0 = .ok (.aload_n 0, 1) := by decide +kernel
theorem dX4_payBack_1 : decode cX4_payBack 1 = .ok (.aload_n 0, 1) := by decide +kernel
theorem dX4_payBack_2 : decode cX4_payBack 2 = .ok (.iload_n 1, 1) := by decide +kernel
theorem dX4_payBack_3 : decode cX4_payBack 3 = .ok (.invokevirtual 134, 3) := by decide +kernel
theorem dX4_payBack_6 : decode cX4_payBack 6 = .ok (.ifCond .ne 7, 3) := by decide +kernel
theorem dX4_payBack_9 : decode cX4_payBack 9 = .ok (.iconst 1, 1) := by decide +kernel
theorem dX4_payBack_10 : decode cX4_payBack 10 = .ok (.goto 26, 3) := by decide +kernel
theorem dX4_payBack_13 : decode cX4_payBack 13 = .ok (.aload_n 0, 1) := by decide +kernel
theorem dX4_payBack_14 : decode cX4_payBack 14 = .ok (.getfield 58, 3) := by decide +kernel
theorem dX4_payBack_17 : decode cX4_payBack 17 = .ok (.iload_n 1, 1) := by decide +kernel
theorem dX4_payBack_18 : decode cX4_payBack 18 = .ok (.baload, 1) := by decide +kernel
theorem dX4_payBack_19 : decode cX4_payBack 19 = .ok (.ifCond .ne 12, 3) := by decide +kernel
theorem dX4_payBack_22 : decode cX4_payBack 22 = .ok (.aload_n 0, 1) := by decide +kernel
theorem dX4_payBack_23 : decode cX4_payBack 23 = .ok (.getfield 52, 3) := by decide +kernel
theorem dX4_payBack_26 : decode cX4_payBack 26 = .ok (.iload_n 1, 1) := by decide +kernel
theorem dX4_payBack_27 : decode cX4_payBack 27 = .ok (.iaload, 1) := by decide +kernel
theorem dX4_payBack_28 : decode cX4_payBack 28 = .ok (.ifCond .ne 7, 3) := by decide +kernel
theorem dX4_payBack_31 : decode cX4_payBack 31 = .ok (.iconst 2, 1) := by decide +kernel
theorem dX4_payBack_32 : decode cX4_payBack 32 = .ok (.goto 4, 3) := by decide +kernel
theorem dX4_payBack_35 : decode cX4_payBack 35 = .ok (.iconst 0, 1) := by decide +kernel
theorem dX4_payBack_36 : decode cX4_payBack 36 = .ok (.invokevirtual 124, 3) := by decide +kernel
theorem dX4_payBack_39 : decode cX4_payBack 39 = .ok (.ifCond .eq 5, 3) := by decide +kernel
theorem dX4_payBack_42 : decode cX4_payBack 42 = .ok (.iconst 0, 1) := by decide +kernel
theorem dX4_payBack_43 : decode cX4_payBack 43 = .ok (.ireturn, 1) := by decide +kernel
theorem dX4_payBack_44 : decode cX4_payBack 44 = .ok (.aload_n 0, 1) := by decide +kernel
theorem dX4_payBack_45 : decode cX4_payBack 45 = .ok (.getfield 52, 3) := by decide +kernel
theorem dX4_payBack_48 : decode cX4_payBack 48 = .ok (.iload_n 1, 1) := by decide +kernel
theorem dX4_payBack_49 : decode cX4_payBack 49 = .ok (.iaload, 1) := by decide +kernel
theorem dX4_payBack_50 : decode cX4_payBack 50 = .ok (.istore_n 2, 1) := by decide +kernel
theorem dX4_payBack_51 : decode cX4_payBack 51 = .ok (.aload_n 0, 1) := by decide +kernel
theorem dX4_payBack_52 : decode cX4_payBack 52 = .ok (.getfield 55, 3) := by decide +kernel
theorem dX4_payBack_55 : decode cX4_payBack 55 = .ok (.iload_n 1, 1) := by decide +kernel
theorem dX4_payBack_56 : decode cX4_payBack 56 = .ok (.dup2, 1) := by decide +kernel
theorem dX4_payBack_57 : decode cX4_payBack 57 = .ok (.iaload, 1) := by decide +kernel
theorem dX4_payBack_58 : decode cX4_payBack 58 = .ok (.iload_n 2, 1) := by decide +kernel
theorem dX4_payBack_59 : decode cX4_payBack 59 = .ok (.iadd, 1) := by decide +kernel
theorem dX4_payBack_60 : decode cX4_payBack 60 = .ok (.iastore, 1) := by decide +kernel
theorem dX4_payBack_61 : decode cX4_payBack 61 = .ok (.aload_n 0, 1) := by decide +kernel
theorem dX4_payBack_62 : decode cX4_payBack 62 = .ok (.getfield 52, 3) := by decide +kernel
theorem dX4_payBack_65 : decode cX4_payBack 65 = .ok (.iload_n 1, 1) := by decide +kernel
theorem dX4_payBack_66 : decode cX4_payBack 66 = .ok (.iconst 0, 1) := by decide +kernel
theorem dX4_payBack_67 : decode cX4_payBack 67 = .ok (.iastore, 1) := by decide +kernel
theorem dX4_payBack_68 : decode cX4_payBack 68 = .ok (.iload_n 2, 1) := by decide +kernel
theorem dX4_payBack_69 : decode cX4_payBack 69 = .ok (.ireturn, 1) := by decide +kernel
theorem dX4_bounce_0 : decode cX4_bounce 0 = .ok (.aload_n 0, 1) := by decide +kernel
theorem dX4_bounce_1 : decode cX4_bounce 1 = .ok (.aload_n 0, 1) := by decide +kernel
theorem dX4_bounce_2 : decode cX4_bounce 2 = .ok (.iload_n 1, 1) := by decide +kernel
theorem dX4_bounce_3 : decode cX4_bounce 3 = .ok (.invokevirtual 134, 3) := by decide +kernel
theorem dX4_bounce_6 : decode cX4_bounce 6 = .ok (.ifCond .ne 7, 3) := by decide +kernel
theorem dX4_bounce_9 : decode cX4_bounce 9 = .ok (.iconst 1, 1) := by decide +kernel
theorem dX4_bounce_10 : decode cX4_bounce 10 = .ok (.goto 26, 3) := by decide +kernel
theorem dX4_bounce_13 : decode cX4_bounce 13 = .ok (.aload_n 0, 1) := by decide +kernel
theorem dX4_bounce_14 : decode cX4_bounce 14 = .ok (.getfield 58, 3) := by decide +kernel
theorem dX4_bounce_17 : decode cX4_bounce 17 = .ok (.iload_n 1, 1) := by decide +kernel
theorem dX4_bounce_18 : decode cX4_bounce 18 = .ok (.baload, 1) := by decide +kernel
theorem dX4_bounce_19 : decode cX4_bounce 19 = .ok (.ifCond .ne 12, 3) := by decide +kernel
theorem dX4_bounce_22 : decode cX4_bounce 22 = .ok (.aload_n 0, 1) := by decide +kernel
theorem dX4_bounce_23 : decode cX4_bounce 23 = .ok (.getfield 55, 3) := by decide +kernel
theorem dX4_bounce_26 : decode cX4_bounce 26 = .ok (.iload_n 1, 1) := by decide +kernel
theorem dX4_bounce_27 : decode cX4_bounce 27 = .ok (.iaload, 1) := by decide +kernel
theorem dX4_bounce_28 : decode cX4_bounce 28 = .ok (.ifCond .le 7, 3) := by decide +kernel
theorem dX4_bounce_31 : decode cX4_bounce 31 = .ok (.iconst 2, 1) := by decide +kernel
theorem dX4_bounce_32 : decode cX4_bounce 32 = .ok (.goto 4, 3) := by decide +kernel
theorem dX4_bounce_35 : decode cX4_bounce 35 = .ok (.iconst 0, 1) := by decide +kernel
theorem dX4_bounce_36 : decode cX4_bounce 36 = .ok (.invokevirtual 124, 3) := by decide +kernel
theorem dX4_bounce_39 : decode cX4_bounce 39 = .ok (.ifCond .eq 5, 3) := by decide +kernel
theorem dX4_bounce_42 : decode cX4_bounce 42 = .ok (.iconst 0, 1) := by decide +kernel
theorem dX4_bounce_43 : decode cX4_bounce 43 = .ok (.ireturn, 1) := by decide +kernel
theorem dX4_bounce_44 : decode cX4_bounce 44 = .ok (.iconst 0, 1) := by decide +kernel
theorem dX4_bounce_45 : decode cX4_bounce 45 = .ok (.istore_n 2, 1) := by decide +kernel
theorem dX4_bounce_46 : decode cX4_bounce 46 = .ok (.iconst 0, 1) := by decide +kernel
theorem dX4_bounce_47 : decode cX4_bounce 47 = .ok (.istore_n 3, 1) := by decide +kernel
theorem dX4_bounce_48 : decode cX4_bounce 48 = .ok (.iload_n 3, 1) := by decide +kernel
theorem dX4_bounce_49 : decode cX4_bounce 49 = .ok (.aload_n 0, 1) := by decide +kernel
theorem dX4_bounce_50 : decode cX4_bounce 50 = .ok (.getfield 79, 3) := by decide +kernel
theorem dX4_bounce_53 : decode cX4_bounce 53 = .ok (.if_icmp .ge 107, 3) := by decide +kernel
theorem dX4_bounce_56 : decode cX4_bounce 56 = .ok (.bipush 40, 2) := by decide +kernel
theorem dX4_bounce_58 : decode cX4_bounce 58 = .ok (.iload_n 1, 1) := by decide +kernel
theorem dX4_bounce_59 : decode cX4_bounce 59 = .ok (.imul, 1) := by decide +kernel
theorem dX4_bounce_60 : decode cX4_bounce 60 = .ok (.iload_n 3, 1) := by decide +kernel
theorem dX4_bounce_61 : decode cX4_bounce 61 = .ok (.iadd, 1) := by decide +kernel
theorem dX4_bounce_62 : decode cX4_bounce 62 = .ok (.istore 4, 2) := by decide +kernel
theorem dX4_bounce_64 : decode cX4_bounce 64 = .ok (.iload_n 2, 1) := by decide +kernel
theorem dX4_bounce_65 : decode cX4_bounce 65 = .ok (.aload_n 0, 1) := by decide +kernel
theorem dX4_bounce_66 : decode cX4_bounce 66 = .ok (.getfield 65, 3) := by decide +kernel
theorem dX4_bounce_69 : decode cX4_bounce 69 = .ok (.iload 4, 2) := by decide +kernel
theorem dX4_bounce_71 : decode cX4_bounce 71 = .ok (.baload, 1) := by decide +kernel
theorem dX4_bounce_72 : decode cX4_bounce 72 = .ok (.ifCond .eq 7, 3) := by decide +kernel
theorem dX4_bounce_75 : decode cX4_bounce 75 = .ok (.iconst 1, 1) := by decide +kernel
theorem dX4_bounce_76 : decode cX4_bounce 76 = .ok (.goto 4, 3) := by decide +kernel
theorem dX4_bounce_79 : decode cX4_bounce 79 = .ok (.iconst 0, 1) := by decide +kernel
theorem dX4_bounce_80 : decode cX4_bounce 80 = .ok (.iadd, 1) := by decide +kernel
theorem dX4_bounce_81 : decode cX4_bounce 81 = .ok (.istore_n 2, 1) := by decide +kernel
theorem dX4_bounce_82 : decode cX4_bounce 82 = .ok (.aload_n 0, 1) := by decide +kernel
theorem dX4_bounce_83 : decode cX4_bounce 83 = .ok (.getfield 28, 3) := by decide +kernel
theorem dX4_bounce_86 : decode cX4_bounce 86 = .ok (.iload_n 3, 1) := by decide +kernel
theorem dX4_bounce_87 : decode cX4_bounce 87 = .ok (.dup2, 1) := by decide +kernel
theorem dX4_bounce_88 : decode cX4_bounce 88 = .ok (.iaload, 1) := by decide +kernel
theorem dX4_bounce_89 : decode cX4_bounce 89 = .ok (.aload_n 0, 1) := by decide +kernel
theorem dX4_bounce_90 : decode cX4_bounce 90 = .ok (.getfield 62, 3) := by decide +kernel
theorem dX4_bounce_93 : decode cX4_bounce 93 = .ok (.iload 4, 2) := by decide +kernel
theorem dX4_bounce_95 : decode cX4_bounce 95 = .ok (.iaload, 1) := by decide +kernel
theorem dX4_bounce_96 : decode cX4_bounce 96 = .ok (.isub, 1) := by decide +kernel
theorem dX4_bounce_97 : decode cX4_bounce 97 = .ok (.iastore, 1) := by decide +kernel
theorem dX4_bounce_98 : decode cX4_bounce 98 = .ok (.aload_n 0, 1) := by decide +kernel
theorem dX4_bounce_99 : decode cX4_bounce 99 = .ok (.getfield 62, 3) := by decide +kernel
theorem dX4_bounce_102 : decode cX4_bounce 102 = .ok (.iload 4, 2) := by decide +kernel
theorem dX4_bounce_104 : decode cX4_bounce 104 = .ok (.iconst 0, 1) := by decide +kernel
theorem dX4_bounce_105 : decode cX4_bounce 105 = .ok (.iastore, 1) := by decide +kernel
theorem dX4_bounce_106 : decode cX4_bounce 106 = .ok (.aload_n 0, 1) := by decide +kernel
theorem dX4_bounce_107 : decode cX4_bounce 107 = .ok (.getfield 34, 3) := by decide +kernel
theorem dX4_bounce_110 : decode cX4_bounce 110 = .ok (.iload_n 3, 1) := by decide +kernel
theorem dX4_bounce_111 : decode cX4_bounce 111 = .ok (.iaload, 1) := by decide +kernel
theorem dX4_bounce_112 : decode cX4_bounce 112 = .ok (.iload_n 1, 1) := by decide +kernel
theorem dX4_bounce_113 : decode cX4_bounce 113 = .ok (.if_icmp .ne 17, 3) := by decide +kernel
theorem dX4_bounce_116 : decode cX4_bounce 116 = .ok (.aload_n 0, 1) := by decide +kernel
theorem dX4_bounce_117 : decode cX4_bounce 117 = .ok (.getfield 31, 3) := by decide +kernel
theorem dX4_bounce_120 : decode cX4_bounce 120 = .ok (.iload_n 3, 1) := by decide +kernel
theorem dX4_bounce_121 : decode cX4_bounce 121 = .ok (.iconst 0, 1) := by decide +kernel
theorem dX4_bounce_122 : decode cX4_bounce 122 = .ok (.iastore, 1) := by decide +kernel
theorem dX4_bounce_123 : decode cX4_bounce 123 = .ok (.aload_n 0, 1) := by decide +kernel
theorem dX4_bounce_124 : decode cX4_bounce 124 = .ok (.getfield 34, 3) := by decide +kernel
theorem dX4_bounce_127 : decode cX4_bounce 127 = .ok (.iload_n 3, 1) := by decide +kernel
theorem dX4_bounce_128 : decode cX4_bounce 128 = .ok (.iconst (-1), 1) := by decide +kernel
theorem dX4_bounce_129 : decode cX4_bounce 129 = .ok (.iastore, 1) := by decide +kernel
theorem dX4_bounce_130 : decode cX4_bounce 130 = .ok (.aload_n 0, 1) := by decide +kernel
theorem dX4_bounce_131 : decode cX4_bounce 131 = .ok (.getfield 40, 3) := by decide +kernel
theorem dX4_bounce_134 : decode cX4_bounce 134 = .ok (.iload_n 3, 1) := by decide +kernel
theorem dX4_bounce_135 : decode cX4_bounce 135 = .ok (.iaload, 1) := by decide +kernel
theorem dX4_bounce_136 : decode cX4_bounce 136 = .ok (.iload_n 1, 1) := by decide +kernel
theorem dX4_bounce_137 : decode cX4_bounce 137 = .ok (.if_icmp .ne 17, 3) := by decide +kernel
theorem dX4_bounce_140 : decode cX4_bounce 140 = .ok (.aload_n 0, 1) := by decide +kernel
theorem dX4_bounce_141 : decode cX4_bounce 141 = .ok (.getfield 37, 3) := by decide +kernel
theorem dX4_bounce_144 : decode cX4_bounce 144 = .ok (.iload_n 3, 1) := by decide +kernel
theorem dX4_bounce_145 : decode cX4_bounce 145 = .ok (.iconst 0, 1) := by decide +kernel
theorem dX4_bounce_146 : decode cX4_bounce 146 = .ok (.iastore, 1) := by decide +kernel
theorem dX4_bounce_147 : decode cX4_bounce 147 = .ok (.aload_n 0, 1) := by decide +kernel
theorem dX4_bounce_148 : decode cX4_bounce 148 = .ok (.getfield 40, 3) := by decide +kernel
theorem dX4_bounce_151 : decode cX4_bounce 151 = .ok (.iload_n 3, 1) := by decide +kernel
theorem dX4_bounce_152 : decode cX4_bounce 152 = .ok (.iconst (-1), 1) := by decide +kernel
theorem dX4_bounce_153 : decode cX4_bounce 153 = .ok (.iastore, 1) := by decide +kernel
theorem dX4_bounce_154 : decode cX4_bounce 154 = .ok (.iinc 3 1, 3) := by decide +kernel
theorem dX4_bounce_157 : decode cX4_bounce 157 = .ok (.goto (-109), 3) := by decide +kernel
theorem dX4_bounce_160 : decode cX4_bounce 160 = .ok (.aload_n 0, 1) := by decide +kernel
theorem dX4_bounce_161 : decode cX4_bounce 161 = .ok (.getfield 52, 3) := by decide +kernel
theorem dX4_bounce_164 : decode cX4_bounce 164 = .ok (.iload_n 1, 1) := by decide +kernel
theorem dX4_bounce_165 : decode cX4_bounce 165 = .ok (.iconst 0, 1) := by decide +kernel
theorem dX4_bounce_166 : decode cX4_bounce 166 = .ok (.iastore, 1) := by decide +kernel
theorem dX4_bounce_167 : decode cX4_bounce 167 = .ok (.aload_n 0, 1) := by decide +kernel
theorem dX4_bounce_168 : decode cX4_bounce 168 = .ok (.getfield 58, 3) := by decide +kernel
theorem dX4_bounce_171 : decode cX4_bounce 171 = .ok (.iload_n 1, 1) := by decide +kernel
theorem dX4_bounce_172 : decode cX4_bounce 172 = .ok (.iconst 1, 1) := by decide +kernel
theorem dX4_bounce_173 : decode cX4_bounce 173 = .ok (.bastore, 1) := by decide +kernel
theorem dX4_bounce_174 : decode cX4_bounce 174 = .ok (.iload_n 2, 1) := by decide +kernel
theorem dX4_bounce_175 : decode cX4_bounce 175 = .ok (.ireturn, 1) := by decide +kernel
theorem dX4_settle_0 : decode cX4_settle 0 = .ok (.aload_n 0, 1) := by decide +kernel
theorem dX4_settle_1 : decode cX4_settle 1 = .ok (.aload_n 0, 1) := by decide +kernel
theorem dX4_settle_2 : decode cX4_settle 2 = .ok (.iload_n 1, 1) := by decide +kernel
theorem dX4_settle_3 : decode cX4_settle 3 = .ok (.invokevirtual 108, 3) := by decide +kernel
theorem dX4_settle_6 : decode cX4_settle 6 = .ok (.ifCond .ne 7, 3) := by decide +kernel
theorem dX4_settle_9 : decode cX4_settle 9 = .ok (.iconst 1, 1) := by decide +kernel
theorem dX4_settle_10 : decode cX4_settle 10 = .ok (.goto 17, 3) := by decide +kernel
theorem dX4_settle_13 : decode cX4_settle 13 = .ok (.aload_n 0, 1) := by decide +kernel
theorem dX4_settle_14 : decode cX4_settle 14 = .ok (.getfield 37, 3) := by decide +kernel
theorem dX4_settle_17 : decode cX4_settle 17 = .ok (.iload_n 1, 1) := by decide +kernel
theorem dX4_settle_18 : decode cX4_settle 18 = .ok (.iaload, 1) := by decide +kernel
theorem dX4_settle_19 : decode cX4_settle 19 = .ok (.ifCond .ne 7, 3) := by decide +kernel
theorem dX4_settle_22 : decode cX4_settle 22 = .ok (.iconst 2, 1) := by decide +kernel
theorem dX4_settle_23 : decode cX4_settle 23 = .ok (.goto 4, 3) := by decide +kernel
theorem dX4_settle_26 : decode cX4_settle 26 = .ok (.iconst 0, 1) := by decide +kernel
theorem dX4_settle_27 : decode cX4_settle 27 = .ok (.invokevirtual 124, 3) := by decide +kernel
theorem dX4_settle_30 : decode cX4_settle 30 = .ok (.ifCond .eq 5, 3) := by decide +kernel
theorem dX4_settle_33 : decode cX4_settle 33 = .ok (.iconst 0, 1) := by decide +kernel
theorem dX4_settle_34 : decode cX4_settle 34 = .ok (.ireturn, 1) := by decide +kernel
theorem dX4_settle_35 : decode cX4_settle 35 = .ok (.aload_n 0, 1) := by decide +kernel
theorem dX4_settle_36 : decode cX4_settle 36 = .ok (.getfield 37, 3) := by decide +kernel
theorem dX4_settle_39 : decode cX4_settle 39 = .ok (.iload_n 1, 1) := by decide +kernel
theorem dX4_settle_40 : decode cX4_settle 40 = .ok (.iaload, 1) := by decide +kernel
theorem dX4_settle_41 : decode cX4_settle 41 = .ok (.istore_n 3, 1) := by decide +kernel
theorem dX4_settle_42 : decode cX4_settle 42 = .ok (.aload_n 0, 1) := by decide +kernel
theorem dX4_settle_43 : decode cX4_settle 43 = .ok (.getfield 43, 3) := by decide +kernel
theorem dX4_settle_46 : decode cX4_settle 46 = .ok (.iload_n 1, 1) := by decide +kernel
theorem dX4_settle_47 : decode cX4_settle 47 = .ok (.dup2, 1) := by decide +kernel
theorem dX4_settle_48 : decode cX4_settle 48 = .ok (.iaload, 1) := by decide +kernel
theorem dX4_settle_49 : decode cX4_settle 49 = .ok (.iload_n 2, 1) := by decide +kernel
theorem dX4_settle_50 : decode cX4_settle 50 = .ok (.ifCond .eq 7, 3) := by decide +kernel
theorem dX4_settle_53 : decode cX4_settle 53 = .ok (.iload_n 3, 1) := by decide +kernel
theorem dX4_settle_54 : decode cX4_settle 54 = .ok (.goto 4, 3) := by decide +kernel
theorem dX4_settle_57 : decode cX4_settle 57 = .ok (.iconst 0, 1) := by decide +kernel
theorem dX4_settle_58 : decode cX4_settle 58 = .ok (.iadd, 1) := by decide +kernel
theorem dX4_settle_59 : decode cX4_settle 59 = .ok (.iastore, 1) := by decide +kernel
theorem dX4_settle_60 : decode cX4_settle 60 = .ok (.aload_n 0, 1) := by decide +kernel
theorem dX4_settle_61 : decode cX4_settle 61 = .ok (.getfield 37, 3) := by decide +kernel
theorem dX4_settle_64 : decode cX4_settle 64 = .ok (.iload_n 1, 1) := by decide +kernel
theorem dX4_settle_65 : decode cX4_settle 65 = .ok (.iconst 0, 1) := by decide +kernel
theorem dX4_settle_66 : decode cX4_settle 66 = .ok (.iastore, 1) := by decide +kernel
theorem dX4_settle_67 : decode cX4_settle 67 = .ok (.aload_n 0, 1) := by decide +kernel
theorem dX4_settle_68 : decode cX4_settle 68 = .ok (.getfield 40, 3) := by decide +kernel
theorem dX4_settle_71 : decode cX4_settle 71 = .ok (.iload_n 1, 1) := by decide +kernel
theorem dX4_settle_72 : decode cX4_settle 72 = .ok (.iconst (-1), 1) := by decide +kernel
theorem dX4_settle_73 : decode cX4_settle 73 = .ok (.iastore, 1) := by decide +kernel
theorem dX4_settle_74 : decode cX4_settle 74 = .ok (.iload_n 3, 1) := by decide +kernel
theorem dX4_settle_75 : decode cX4_settle 75 = .ok (.ireturn, 1) := by decide +kernel
theorem dX4_advance_0 : decode cX4_advance 0 = .ok (.aload_n 0, 1) := by decide +kernel
theorem dX4_advance_1 : decode cX4_advance 1 = .ok (.iload_n 1, 1) := by decide +kernel
theorem dX4_advance_2 : decode cX4_advance 2 = .ok (.iconst 1, 1) := by decide +kernel
theorem dX4_advance_3 : decode cX4_advance 3 = .ok (.bipush 100, 2) := by decide +kernel
theorem dX4_advance_5 : decode cX4_advance 5 = .ok (.invokestatic 75, 3) := by decide +kernel
theorem dX4_advance_8 : decode cX4_advance 8 = .ok (.ifCond .eq 7, 3) := by decide +kernel
theorem dX4_advance_11 : decode cX4_advance 11 = .ok (.iconst 0, 1) := by decide +kernel
theorem dX4_advance_12 : decode cX4_advance 12 = .ok (.goto 4, 3) := by decide +kernel
theorem dX4_advance_15 : decode cX4_advance 15 = .ok (.iconst 1, 1) := by decide +kernel
theorem dX4_advance_16 : decode cX4_advance 16 = .ok (.invokevirtual 124, 3) := by decide +kernel
theorem dX4_advance_19 : decode cX4_advance 19 = .ok (.ifCond .eq 5, 3) := by decide +kernel
theorem dX4_advance_22 : decode cX4_advance 22 = .ok (.iconst 0, 1) := by decide +kernel
theorem dX4_advance_23 : decode cX4_advance 23 = .ok (.ireturn, 1) := by decide +kernel
theorem dX4_advance_24 : decode cX4_advance 24 = .ok (.aload_n 0, 1) := by decide +kernel
theorem dX4_advance_25 : decode cX4_advance 25 = .ok (.dup, 1) := by decide +kernel
theorem dX4_advance_26 : decode cX4_advance 26 = .ok (.getfield 89, 3) := by decide +kernel
theorem dX4_advance_29 : decode cX4_advance 29 = .ok (.iload_n 1, 1) := by decide +kernel
theorem dX4_advance_30 : decode cX4_advance 30 = .ok (.iadd, 1) := by decide +kernel
theorem dX4_advance_31 : decode cX4_advance 31 = .ok (.putfield 89, 3) := by decide +kernel
theorem dX4_advance_34 : decode cX4_advance 34 = .ok (.aload_n 0, 1) := by decide +kernel
theorem dX4_advance_35 : decode cX4_advance 35 = .ok (.getfield 89, 3) := by decide +kernel
theorem dX4_advance_38 : decode cX4_advance 38 = .ok (.ireturn, 1) := by decide +kernel
theorem dX4_bills_0 : decode cX4_bills 0 = .ok (.aload_n 0, 1) := by decide +kernel
theorem dX4_bills_1 : decode cX4_bills 1 = .ok (.aload_n 0, 1) := by decide +kernel
theorem dX4_bills_2 : decode cX4_bills 2 = .ok (.getfield 79, 3) := by decide +kernel
theorem dX4_bills_5 : decode cX4_bills 5 = .ok (.invokevirtual 137, 3) := by decide +kernel
theorem dX4_bills_8 : decode cX4_bills 8 = .ok (.ireturn, 1) := by decide +kernel
theorem dX4_noBill_0 : decode cX4_noBill 0 = .ok (.aload_n 0, 1) := by decide +kernel
theorem dX4_noBill_1 : decode cX4_noBill 1 = .ok (.aload_n 0, 1) := by decide +kernel
theorem dX4_noBill_2 : decode cX4_noBill 2 = .ok (.iload_n 1, 1) := by decide +kernel
theorem dX4_noBill_3 : decode cX4_noBill 3 = .ok (.invokevirtual 108, 3) := by decide +kernel
theorem dX4_noBill_6 : decode cX4_noBill 6 = .ok (.ifCond .eq 7, 3) := by decide +kernel
theorem dX4_noBill_9 : decode cX4_noBill 9 = .ok (.iconst 0, 1) := by decide +kernel
theorem dX4_noBill_10 : decode cX4_noBill 10 = .ok (.goto 4, 3) := by decide +kernel
theorem dX4_noBill_13 : decode cX4_noBill 13 = .ok (.iconst 1, 1) := by decide +kernel
theorem dX4_noBill_14 : decode cX4_noBill 14 = .ok (.invokevirtual 124, 3) := by decide +kernel
theorem dX4_noBill_17 : decode cX4_noBill 17 = .ok (.ireturn, 1) := by decide +kernel
theorem dX4_open_0 : decode cX4_open 0 = .ok (.aload_n 0, 1) := by decide +kernel
theorem dX4_open_1 : decode cX4_open 1 = .ok (.iload_n 1, 1) := by decide +kernel
theorem dX4_open_2 : decode cX4_open 2 = .ok (.invokevirtual 140, 3) := by decide +kernel
theorem dX4_open_5 : decode cX4_open 5 = .ok (.ifCond .eq 7, 3) := by decide +kernel
theorem dX4_open_8 : decode cX4_open 8 = .ok (.iconst 0, 1) := by decide +kernel
theorem dX4_open_9 : decode cX4_open 9 = .ok (.goto 8, 3) := by decide +kernel
theorem dX4_open_12 : decode cX4_open 12 = .ok (.aload_n 0, 1) := by decide +kernel
theorem dX4_open_13 : decode cX4_open 13 = .ok (.iload_n 1, 1) := by decide +kernel
theorem dX4_open_14 : decode cX4_open 14 = .ok (.invokevirtual 85, 3) := by decide +kernel
theorem dX4_open_17 : decode cX4_open 17 = .ok (.ireturn, 1) := by decide +kernel
theorem dX4_due_0 : decode cX4_due 0 = .ok (.aload_n 0, 1) := by decide +kernel
theorem dX4_due_1 : decode cX4_due 1 = .ok (.iload_n 1, 1) := by decide +kernel
theorem dX4_due_2 : decode cX4_due 2 = .ok (.invokevirtual 140, 3) := by decide +kernel
theorem dX4_due_5 : decode cX4_due 5 = .ok (.ifCond .eq 7, 3) := by decide +kernel
theorem dX4_due_8 : decode cX4_due 8 = .ok (.iconst 0, 1) := by decide +kernel
theorem dX4_due_9 : decode cX4_due 9 = .ok (.goto 8, 3) := by decide +kernel
theorem dX4_due_12 : decode cX4_due 12 = .ok (.aload_n 0, 1) := by decide +kernel
theorem dX4_due_13 : decode cX4_due 13 = .ok (.iload_n 1, 1) := by decide +kernel
theorem dX4_due_14 : decode cX4_due 14 = .ok (.invokevirtual 97, 3) := by decide +kernel
theorem dX4_due_17 : decode cX4_due 17 = .ok (.ireturn, 1) := by decide +kernel
theorem dX4_paid_0 : decode cX4_paid 0 = .ok (.aload_n 0, 1) := by decide +kernel
theorem dX4_paid_1 : decode cX4_paid 1 = .ok (.iload_n 1, 1) := by decide +kernel
theorem dX4_paid_2 : decode cX4_paid 2 = .ok (.invokevirtual 140, 3) := by decide +kernel
theorem dX4_paid_5 : decode cX4_paid 5 = .ok (.ifCond .eq 7, 3) := by decide +kernel
theorem dX4_paid_8 : decode cX4_paid 8 = .ok (.iconst 0, 1) := by decide +kernel
theorem dX4_paid_9 : decode cX4_paid 9 = .ok (.goto 9, 3) := by decide +kernel
theorem dX4_paid_12 : decode cX4_paid 12 = .ok (.aload_n 0, 1) := by decide +kernel
theorem dX4_paid_13 : decode cX4_paid 13 = .ok (.getfield 28, 3) := by decide +kernel
theorem dX4_paid_16 : decode cX4_paid 16 = .ok (.iload_n 1, 1) := by decide +kernel
theorem dX4_paid_17 : decode cX4_paid 17 = .ok (.iaload, 1) := by decide +kernel
theorem dX4_paid_18 : decode cX4_paid 18 = .ok (.ireturn, 1) := by decide +kernel
theorem dX4_taken_0 : decode cX4_taken 0 = .ok (.aload_n 0, 1) := by decide +kernel
theorem dX4_taken_1 : decode cX4_taken 1 = .ok (.iload_n 1, 1) := by decide +kernel
theorem dX4_taken_2 : decode cX4_taken 2 = .ok (.invokevirtual 140, 3) := by decide +kernel
theorem dX4_taken_5 : decode cX4_taken 5 = .ok (.ifCond .eq 7, 3) := by decide +kernel
theorem dX4_taken_8 : decode cX4_taken 8 = .ok (.iconst 0, 1) := by decide +kernel
theorem dX4_taken_9 : decode cX4_taken 9 = .ok (.goto 9, 3) := by decide +kernel
theorem dX4_taken_12 : decode cX4_taken 12 = .ok (.aload_n 0, 1) := by decide +kernel
theorem dX4_taken_13 : decode cX4_taken 13 = .ok (.getfield 31, 3) := by decide +kernel
theorem dX4_taken_16 : decode cX4_taken 16 = .ok (.iload_n 1, 1) := by decide +kernel
theorem dX4_taken_17 : decode cX4_taken 17 = .ok (.iaload, 1) := by decide +kernel
theorem dX4_taken_18 : decode cX4_taken 18 = .ok (.ireturn, 1) := by decide +kernel
theorem dX4_disputed_0 : decode cX4_disputed 0 = .ok (.aload_n 0, 1) := by decide +kernel
theorem dX4_disputed_1 : decode cX4_disputed 1 = .ok (.iload_n 1, 1) := by decide +kernel
theorem dX4_disputed_2 : decode cX4_disputed 2 = .ok (.invokevirtual 140, 3) := by decide +kernel
theorem dX4_disputed_5 : decode cX4_disputed 5 = .ok (.ifCond .eq 7, 3) := by decide +kernel
theorem dX4_disputed_8 : decode cX4_disputed 8 = .ok (.iconst 0, 1) := by decide +kernel
theorem dX4_disputed_9 : decode cX4_disputed 9 = .ok (.goto 9, 3) := by decide +kernel
theorem dX4_disputed_12 : decode cX4_disputed 12 = .ok (.aload_n 0, 1) := by decide +kernel
theorem dX4_disputed_13 : decode cX4_disputed 13 = .ok (.getfield 37, 3) := by decide +kernel
theorem dX4_disputed_16 : decode cX4_disputed 16 = .ok (.iload_n 1, 1) := by decide +kernel
theorem dX4_disputed_17 : decode cX4_disputed 17 = .ok (.iaload, 1) := by decide +kernel
theorem dX4_disputed_18 : decode cX4_disputed 18 = .ok (.ireturn, 1) := by decide +kernel
theorem dX4_writtenOff_0 : decode cX4_writtenOff 0 = .ok (.aload_n 0, 1) := by decide +kernel
theorem dX4_writtenOff_1 : decode cX4_writtenOff 1 = .ok (.iload_n 1, 1) := by decide +kernel
theorem dX4_writtenOff_2 : decode cX4_writtenOff 2 = .ok (.invokevirtual 140, 3) := by decide +kernel
theorem dX4_writtenOff_5 : decode cX4_writtenOff 5 = .ok (.ifCond .eq 7, 3) := by decide +kernel
theorem dX4_writtenOff_8 : decode cX4_writtenOff 8 = .ok (.iconst 0, 1) := by decide +kernel
theorem dX4_writtenOff_9 : decode cX4_writtenOff 9 = .ok (.goto 9, 3) := by decide +kernel
theorem dX4_writtenOff_12 : decode cX4_writtenOff 12 = .ok (.aload_n 0, 1) := by decide +kernel
theorem dX4_writtenOff_13 : decode cX4_writtenOff 13 = .ok (.getfield 43, 3) := by decide +kernel
theorem dX4_writtenOff_16 : decode cX4_writtenOff 16 = .ok (.iload_n 1, 1) := by decide +kernel
theorem dX4_writtenOff_17 : decode cX4_writtenOff 17 = .ok (.iaload, 1) := by decide +kernel
theorem dX4_writtenOff_18 : decode cX4_writtenOff 18 = .ok (.ireturn, 1) := by decide +kernel
theorem dX4_openOf_0 : decode cX4_openOf 0 = .ok (.iconst 0, 1) := by decide +kernel
theorem dX4_openOf_1 : decode cX4_openOf 1 = .ok (.istore_n 2, 1) := by decide +kernel
theorem dX4_openOf_2 : decode cX4_openOf 2 = .ok (.iconst 0, 1) := by decide +kernel
theorem dX4_openOf_3 : decode cX4_openOf 3 = .ok (.istore_n 3, 1) := by decide +kernel
theorem dX4_openOf_4 : decode cX4_openOf 4 = .ok (.iload_n 3, 1) := by decide +kernel
theorem dX4_openOf_5 : decode cX4_openOf 5 = .ok (.aload_n 0, 1) := by decide +kernel
theorem dX4_openOf_6 : decode cX4_openOf 6 = .ok (.getfield 79, 3) := by decide +kernel
theorem dX4_openOf_9 : decode cX4_openOf 9 = .ok (.if_icmp .ge 31, 3) := by decide +kernel
theorem dX4_openOf_12 : decode cX4_openOf 12 = .ok (.iload_n 2, 1) := by decide +kernel
theorem dX4_openOf_13 : decode cX4_openOf 13 = .ok (.aload_n 0, 1) := by decide +kernel
theorem dX4_openOf_14 : decode cX4_openOf 14 = .ok (.getfield 7, 3) := by decide +kernel
theorem dX4_openOf_17 : decode cX4_openOf 17 = .ok (.iload_n 3, 1) := by decide +kernel
theorem dX4_openOf_18 : decode cX4_openOf 18 = .ok (.iaload, 1) := by decide +kernel
theorem dX4_openOf_19 : decode cX4_openOf 19 = .ok (.iload_n 1, 1) := by decide +kernel
theorem dX4_openOf_20 : decode cX4_openOf 20 = .ok (.if_icmp .ne 11, 3) := by decide +kernel
theorem dX4_openOf_23 : decode cX4_openOf 23 = .ok (.aload_n 0, 1) := by decide +kernel
theorem dX4_openOf_24 : decode cX4_openOf 24 = .ok (.iload_n 3, 1) := by decide +kernel
theorem dX4_openOf_25 : decode cX4_openOf 25 = .ok (.invokevirtual 85, 3) := by decide +kernel
theorem dX4_openOf_28 : decode cX4_openOf 28 = .ok (.goto 4, 3) := by decide +kernel
theorem dX4_openOf_31 : decode cX4_openOf 31 = .ok (.iconst 0, 1) := by decide +kernel
theorem dX4_openOf_32 : decode cX4_openOf 32 = .ok (.iadd, 1) := by decide +kernel
theorem dX4_openOf_33 : decode cX4_openOf 33 = .ok (.istore_n 2, 1) := by decide +kernel
theorem dX4_openOf_34 : decode cX4_openOf 34 = .ok (.iinc 3 1, 3) := by decide +kernel
theorem dX4_openOf_37 : decode cX4_openOf 37 = .ok (.goto (-33), 3) := by decide +kernel
theorem dX4_openOf_40 : decode cX4_openOf 40 = .ok (.aload_n 0, 1) := by decide +kernel
theorem dX4_openOf_41 : decode cX4_openOf 41 = .ok (.iload_n 1, 1) := by decide +kernel
theorem dX4_openOf_42 : decode cX4_openOf 42 = .ok (.invokestatic 121, 3) := by decide +kernel
theorem dX4_openOf_45 : decode cX4_openOf 45 = .ok (.ifCond .eq 7, 3) := by decide +kernel
theorem dX4_openOf_48 : decode cX4_openOf 48 = .ok (.iconst 0, 1) := by decide +kernel
theorem dX4_openOf_49 : decode cX4_openOf 49 = .ok (.goto 4, 3) := by decide +kernel
theorem dX4_openOf_52 : decode cX4_openOf 52 = .ok (.iconst 1, 1) := by decide +kernel
theorem dX4_openOf_53 : decode cX4_openOf 53 = .ok (.invokevirtual 124, 3) := by decide +kernel
theorem dX4_openOf_56 : decode cX4_openOf 56 = .ok (.ifCond .eq 7, 3) := by decide +kernel
theorem dX4_openOf_59 : decode cX4_openOf 59 = .ok (.iconst 0, 1) := by decide +kernel
theorem dX4_openOf_60 : decode cX4_openOf 60 = .ok (.goto 4, 3) := by decide +kernel
theorem dX4_openOf_63 : decode cX4_openOf 63 = .ok (.iload_n 2, 1) := by decide +kernel
theorem dX4_openOf_64 : decode cX4_openOf 64 = .ok (.ireturn, 1) := by decide +kernel
theorem dX4_setFor_0 : decode cX4_setFor 0 = .ok (.iload_n 1, 1) := by decide +kernel
theorem dX4_setFor_1 : decode cX4_setFor 1 = .ok (.invokestatic 121, 3) := by decide +kernel
theorem dX4_setFor_4 : decode cX4_setFor 4 = .ok (.ifCond .eq 16, 3) := by decide +kernel
theorem dX4_setFor_7 : decode cX4_setFor 7 = .ok (.iload_n 3, 1) := by decide +kernel
theorem dX4_setFor_8 : decode cX4_setFor 8 = .ok (.iconst 0, 1) := by decide +kernel
theorem dX4_setFor_9 : decode cX4_setFor 9 = .ok (.iconst 2, 1) := by decide +kernel
theorem dX4_setFor_10 : decode cX4_setFor 10 = .ok (.invokestatic 75, 3) := by decide +kernel
theorem dX4_setFor_13 : decode cX4_setFor 13 = .ok (.ifCond .eq 7, 3) := by decide +kernel
theorem dX4_setFor_16 : decode cX4_setFor 16 = .ok (.iconst 1, 1) := by decide +kernel
theorem dX4_setFor_17 : decode cX4_setFor 17 = .ok (.goto 4, 3) := by decide +kernel
theorem dX4_setFor_20 : decode cX4_setFor 20 = .ok (.iconst 0, 1) := by decide +kernel
theorem dX4_setFor_21 : decode cX4_setFor 21 = .ok (.istore 4, 2) := by decide +kernel
theorem dX4_setFor_23 : decode cX4_setFor 23 = .ok (.aload_n 0, 1) := by decide +kernel
theorem dX4_setFor_24 : decode cX4_setFor 24 = .ok (.iload 4, 2) := by decide +kernel
theorem dX4_setFor_26 : decode cX4_setFor 26 = .ok (.ifCond .ne 7, 3) := by decide +kernel
theorem dX4_setFor_29 : decode cX4_setFor 29 = .ok (.iconst 1, 1) := by decide +kernel
theorem dX4_setFor_30 : decode cX4_setFor 30 = .ok (.goto 13, 3) := by decide +kernel
theorem dX4_setFor_33 : decode cX4_setFor 33 = .ok (.iload_n 2, 1) := by decide +kernel
theorem dX4_setFor_34 : decode cX4_setFor 34 = .ok (.iconst 1, 1) := by decide +kernel
theorem dX4_setFor_35 : decode cX4_setFor 35 = .ok (.if_icmp .ge 7, 3) := by decide +kernel
theorem dX4_setFor_38 : decode cX4_setFor 38 = .ok (.iconst 2, 1) := by decide +kernel
theorem dX4_setFor_39 : decode cX4_setFor 39 = .ok (.goto 4, 3) := by decide +kernel
theorem dX4_setFor_42 : decode cX4_setFor 42 = .ok (.iconst 0, 1) := by decide +kernel
theorem dX4_setFor_43 : decode cX4_setFor 43 = .ok (.invokevirtual 124, 3) := by decide +kernel
theorem dX4_setFor_46 : decode cX4_setFor 46 = .ok (.ifCond .eq 5, 3) := by decide +kernel
theorem dX4_setFor_49 : decode cX4_setFor 49 = .ok (.iconst 0, 1) := by decide +kernel
theorem dX4_setFor_50 : decode cX4_setFor 50 = .ok (.ireturn, 1) := by decide +kernel
theorem dX4_setFor_51 : decode cX4_setFor 51 = .ok (.iload_n 3, 1) := by decide +kernel
theorem dX4_setFor_52 : decode cX4_setFor 52 = .ok (.aload_n 0, 1) := by decide +kernel
theorem dX4_setFor_53 : decode cX4_setFor 53 = .ok (.iload_n 1, 1) := by decide +kernel
theorem dX4_setFor_54 : decode cX4_setFor 54 = .ok (.iload_n 2, 1) := by decide +kernel
theorem dX4_setFor_55 : decode cX4_setFor 55 = .ok (.i2l, 1) := by decide +kernel
theorem dX4_setFor_56 : decode cX4_setFor 56 = .ok (.invokevirtual 116, 3) := by decide +kernel
theorem dX4_setFor_59 : decode cX4_setFor 59 = .ok (.if_icmp .ge 12, 3) := by decide +kernel
theorem dX4_setFor_62 : decode cX4_setFor 62 = .ok (.aload_n 0, 1) := by decide +kernel
theorem dX4_setFor_63 : decode cX4_setFor 63 = .ok (.getfield 68, 3) := by decide +kernel
theorem dX4_setFor_66 : decode cX4_setFor 66 = .ok (.iload_n 3, 1) := by decide +kernel
theorem dX4_setFor_67 : decode cX4_setFor 67 = .ok (.iaload, 1) := by decide +kernel
theorem dX4_setFor_68 : decode cX4_setFor 68 = .ok (.goto 4, 3) := by decide +kernel
theorem dX4_setFor_71 : decode cX4_setFor 71 = .ok (.iconst (-1), 1) := by decide +kernel
theorem dX4_setFor_72 : decode cX4_setFor 72 = .ok (.ireturn, 1) := by decide +kernel
theorem dX4_receipts_0 : decode cX4_receipts 0 = .ok (.aload_n 0, 1) := by decide +kernel
theorem dX4_receipts_1 : decode cX4_receipts 1 = .ok (.aload_n 0, 1) := by decide +kernel
theorem dX4_receipts_2 : decode cX4_receipts 2 = .ok (.getfield 82, 3) := by decide +kernel
theorem dX4_receipts_5 : decode cX4_receipts 5 = .ok (.invokevirtual 137, 3) := by decide +kernel
theorem dX4_receipts_8 : decode cX4_receipts 8 = .ok (.ireturn, 1) := by decide +kernel
theorem dX4_noReceipt_0 : decode cX4_noReceipt 0 = .ok (.aload_n 0, 1) := by decide +kernel
theorem dX4_noReceipt_1 : decode cX4_noReceipt 1 = .ok (.aload_n 0, 1) := by decide +kernel
theorem dX4_noReceipt_2 : decode cX4_noReceipt 2 = .ok (.iload_n 1, 1) := by decide +kernel
theorem dX4_noReceipt_3 : decode cX4_noReceipt 3 = .ok (.invokevirtual 134, 3) := by decide +kernel
theorem dX4_noReceipt_6 : decode cX4_noReceipt 6 = .ok (.ifCond .eq 7, 3) := by decide +kernel
theorem dX4_noReceipt_9 : decode cX4_noReceipt 9 = .ok (.iconst 0, 1) := by decide +kernel
theorem dX4_noReceipt_10 : decode cX4_noReceipt 10 = .ok (.goto 4, 3) := by decide +kernel
theorem dX4_noReceipt_13 : decode cX4_noReceipt 13 = .ok (.iconst 1, 1) := by decide +kernel
theorem dX4_noReceipt_14 : decode cX4_noReceipt 14 = .ok (.invokevirtual 124, 3) := by decide +kernel
theorem dX4_noReceipt_17 : decode cX4_noReceipt 17 = .ok (.ireturn, 1) := by decide +kernel
theorem dX4_customerOf_0 : decode cX4_customerOf 0 = .ok (.aload_n 0, 1) := by decide +kernel
theorem dX4_customerOf_1 : decode cX4_customerOf 1 = .ok (.iload_n 1, 1) := by decide +kernel
theorem dX4_customerOf_2 : decode cX4_customerOf 2 = .ok (.invokevirtual 143, 3) := by decide +kernel
theorem dX4_customerOf_5 : decode cX4_customerOf 5 = .ok (.ifCond .eq 7, 3) := by decide +kernel
theorem dX4_customerOf_8 : decode cX4_customerOf 8 = .ok (.iconst 0, 1) := by decide +kernel
theorem dX4_customerOf_9 : decode cX4_customerOf 9 = .ok (.goto 9, 3) := by decide +kernel
theorem dX4_customerOf_12 : decode cX4_customerOf 12 = .ok (.aload_n 0, 1) := by decide +kernel
theorem dX4_customerOf_13 : decode cX4_customerOf 13 = .ok (.getfield 49, 3) := by decide +kernel
theorem dX4_customerOf_16 : decode cX4_customerOf 16 = .ok (.iload_n 1, 1) := by decide +kernel
theorem dX4_customerOf_17 : decode cX4_customerOf 17 = .ok (.iaload, 1) := by decide +kernel
theorem dX4_customerOf_18 : decode cX4_customerOf 18 = .ok (.ireturn, 1) := by decide +kernel
theorem dX4_appliedTo_0 : decode cX4_appliedTo 0 = .ok (.aload_n 0, 1) := by decide +kernel
theorem dX4_appliedTo_1 : decode cX4_appliedTo 1 = .ok (.aload_n 0, 1) := by decide +kernel
theorem dX4_appliedTo_2 : decode cX4_appliedTo 2 = .ok (.iload_n 1, 1) := by decide +kernel
theorem dX4_appliedTo_3 : decode cX4_appliedTo 3 = .ok (.invokevirtual 134, 3) := by decide +kernel
theorem dX4_appliedTo_6 : decode cX4_appliedTo 6 = .ok (.ifCond .eq 15, 3) := by decide +kernel
theorem dX4_appliedTo_9 : decode cX4_appliedTo 9 = .ok (.aload_n 0, 1) := by decide +kernel
theorem dX4_appliedTo_10 : decode cX4_appliedTo 10 = .ok (.iload_n 2, 1) := by decide +kernel
theorem dX4_appliedTo_11 : decode cX4_appliedTo 11 = .ok (.invokevirtual 108, 3) := by decide +kernel
theorem dX4_appliedTo_14 : decode cX4_appliedTo 14 = .ok (.ifCond .eq 7, 3) := by decide +kernel
theorem dX4_appliedTo_17 : decode cX4_appliedTo 17 = .ok (.iconst 0, 1) := by decide +kernel
theorem dX4_appliedTo_18 : decode cX4_appliedTo 18 = .ok (.goto 4, 3) := by decide +kernel
theorem dX4_appliedTo_21 : decode cX4_appliedTo 21 = .ok (.iconst 1, 1) := by decide +kernel
theorem dX4_appliedTo_22 : decode cX4_appliedTo 22 = .ok (.invokevirtual 124, 3) := by decide +kernel
theorem dX4_appliedTo_25 : decode cX4_appliedTo 25 = .ok (.ifCond .eq 7, 3) := by decide +kernel
theorem dX4_appliedTo_28 : decode cX4_appliedTo 28 = .ok (.iconst 0, 1) := by decide +kernel
theorem dX4_appliedTo_29 : decode cX4_appliedTo 29 = .ok (.goto 14, 3) := by decide +kernel
theorem dX4_appliedTo_32 : decode cX4_appliedTo 32 = .ok (.aload_n 0, 1) := by decide +kernel
theorem dX4_appliedTo_33 : decode cX4_appliedTo 33 = .ok (.getfield 62, 3) := by decide +kernel
theorem dX4_appliedTo_36 : decode cX4_appliedTo 36 = .ok (.bipush 40, 2) := by decide +kernel
theorem dX4_appliedTo_38 : decode cX4_appliedTo 38 = .ok (.iload_n 1, 1) := by decide +kernel
theorem dX4_appliedTo_39 : decode cX4_appliedTo 39 = .ok (.imul, 1) := by decide +kernel
theorem dX4_appliedTo_40 : decode cX4_appliedTo 40 = .ok (.iload_n 2, 1) := by decide +kernel
theorem dX4_appliedTo_41 : decode cX4_appliedTo 41 = .ok (.iadd, 1) := by decide +kernel
theorem dX4_appliedTo_42 : decode cX4_appliedTo 42 = .ok (.iaload, 1) := by decide +kernel
theorem dX4_appliedTo_43 : decode cX4_appliedTo 43 = .ok (.ireturn, 1) := by decide +kernel
theorem dX4_unapplied_0 : decode cX4_unapplied 0 = .ok (.aload_n 0, 1) := by decide +kernel
theorem dX4_unapplied_1 : decode cX4_unapplied 1 = .ok (.iload_n 1, 1) := by decide +kernel
theorem dX4_unapplied_2 : decode cX4_unapplied 2 = .ok (.invokevirtual 143, 3) := by decide +kernel
theorem dX4_unapplied_5 : decode cX4_unapplied 5 = .ok (.ifCond .eq 7, 3) := by decide +kernel
theorem dX4_unapplied_8 : decode cX4_unapplied 8 = .ok (.iconst 0, 1) := by decide +kernel
theorem dX4_unapplied_9 : decode cX4_unapplied 9 = .ok (.goto 9, 3) := by decide +kernel
theorem dX4_unapplied_12 : decode cX4_unapplied 12 = .ok (.aload_n 0, 1) := by decide +kernel
theorem dX4_unapplied_13 : decode cX4_unapplied 13 = .ok (.getfield 52, 3) := by decide +kernel
theorem dX4_unapplied_16 : decode cX4_unapplied 16 = .ok (.iload_n 1, 1) := by decide +kernel
theorem dX4_unapplied_17 : decode cX4_unapplied 17 = .ok (.iaload, 1) := by decide +kernel
theorem dX4_unapplied_18 : decode cX4_unapplied 18 = .ok (.ireturn, 1) := by decide +kernel
theorem dX4_hasBounced_0 : decode cX4_hasBounced 0 = .ok (.aload_n 0, 1) := by decide +kernel
theorem dX4_hasBounced_1 : decode cX4_hasBounced 1 = .ok (.iload_n 1, 1) := by decide +kernel
theorem dX4_hasBounced_2 : decode cX4_hasBounced 2 = .ok (.invokevirtual 143, 3) := by decide +kernel
theorem dX4_hasBounced_5 : decode cX4_hasBounced 5 = .ok (.ifCond .ne 16, 3) := by decide +kernel
theorem dX4_hasBounced_8 : decode cX4_hasBounced 8 = .ok (.aload_n 0, 1) := by decide +kernel
theorem dX4_hasBounced_9 : decode cX4_hasBounced 9 = .ok (.getfield 58, 3) := by decide +kernel
theorem dX4_hasBounced_12 : decode cX4_hasBounced 12 = .ok (.iload_n 1, 1) := by decide +kernel
theorem dX4_hasBounced_13 : decode cX4_hasBounced 13 = .ok (.baload, 1) := by decide +kernel
theorem dX4_hasBounced_14 : decode cX4_hasBounced 14 = .ok (.ifCond .eq 7, 3) := by decide +kernel
theorem dX4_hasBounced_17 : decode cX4_hasBounced 17 = .ok (.iconst 1, 1) := by decide +kernel
theorem dX4_hasBounced_18 : decode cX4_hasBounced 18 = .ok (.goto 4, 3) := by decide +kernel
theorem dX4_hasBounced_21 : decode cX4_hasBounced 21 = .ok (.iconst 0, 1) := by decide +kernel
theorem dX4_hasBounced_22 : decode cX4_hasBounced 22 = .ok (.ireturn, 1) := by decide +kernel
theorem dX4_day_0 : decode cX4_day 0 = .ok (.aload_n 0, 1) := by decide +kernel
theorem dX4_day_1 : decode cX4_day 1 = .ok (.aload_n 0, 1) := by decide +kernel
theorem dX4_day_2 : decode cX4_day 2 = .ok (.getfield 89, 3) := by decide +kernel
theorem dX4_day_5 : decode cX4_day 5 = .ok (.invokevirtual 137, 3) := by decide +kernel
theorem dX4_day_8 : decode cX4_day 8 = .ok (.ireturn, 1) := by decide +kernel
theorem dX4_all_0 : decode cX4_all 0 = .ok (.iconst 0, 1) := by decide +kernel
theorem dX4_all_1 : decode cX4_all 1 = .ok (.istore_n 2, 1) := by decide +kernel
theorem dX4_all_2 : decode cX4_all 2 = .ok (.iconst 0, 1) := by decide +kernel
theorem dX4_all_3 : decode cX4_all 3 = .ok (.istore_n 3, 1) := by decide +kernel
theorem dX4_all_4 : decode cX4_all 4 = .ok (.iload_n 3, 1) := by decide +kernel
theorem dX4_all_5 : decode cX4_all 5 = .ok (.aload_n 0, 1) := by decide +kernel
theorem dX4_all_6 : decode cX4_all 6 = .ok (.getfield 82, 3) := by decide +kernel
theorem dX4_all_9 : decode cX4_all 9 = .ok (.if_icmp .ge 15, 3) := by decide +kernel
theorem dX4_all_12 : decode cX4_all 12 = .ok (.iload_n 2, 1) := by decide +kernel
theorem dX4_all_13 : decode cX4_all 13 = .ok (.aload_n 1, 1) := by decide +kernel
theorem dX4_all_14 : decode cX4_all 14 = .ok (.iload_n 3, 1) := by decide +kernel
theorem dX4_all_15 : decode cX4_all 15 = .ok (.iaload, 1) := by decide +kernel
theorem dX4_all_16 : decode cX4_all 16 = .ok (.iadd, 1) := by decide +kernel
theorem dX4_all_17 : decode cX4_all 17 = .ok (.istore_n 2, 1) := by decide +kernel
theorem dX4_all_18 : decode cX4_all 18 = .ok (.iinc 3 1, 3) := by decide +kernel
theorem dX4_all_21 : decode cX4_all 21 = .ok (.goto (-17), 3) := by decide +kernel
theorem dX4_all_24 : decode cX4_all 24 = .ok (.iload_n 2, 1) := by decide +kernel
theorem dX4_all_25 : decode cX4_all 25 = .ok (.ireturn, 1) := by decide +kernel
theorem dX4_allBounced_0 : decode cX4_allBounced 0 = .ok (.iconst 0, 1) := by decide +kernel
theorem dX4_allBounced_1 : decode cX4_allBounced 1 = .ok (.istore_n 1, 1) := by decide +kernel
theorem dX4_allBounced_2 : decode cX4_allBounced 2 = .ok (.iconst 0, 1) := by decide +kernel
theorem dX4_allBounced_3 : decode cX4_allBounced 3 = .ok (.istore_n 2, 1) := by decide +kernel
theorem dX4_allBounced_4 : decode cX4_allBounced 4 = .ok (.iload_n 2, 1) := by decide +kernel
theorem dX4_allBounced_5 : decode cX4_allBounced 5 = .ok (.aload_n 0, 1) := by decide +kernel
theorem dX4_allBounced_6 : decode cX4_allBounced 6 = .ok (.getfield 82, 3) := by decide +kernel
theorem dX4_allBounced_9 : decode cX4_allBounced 9 = .ok (.if_icmp .ge 31, 3) := by decide +kernel
theorem dX4_allBounced_12 : decode cX4_allBounced 12 = .ok (.iload_n 1, 1) := by decide +kernel
theorem dX4_allBounced_13 : decode cX4_allBounced 13 = .ok (.aload_n 0, 1) := by decide +kernel
theorem dX4_allBounced_14 : decode cX4_allBounced 14 = .ok (.getfield 58, 3) := by decide +kernel
theorem dX4_allBounced_17 : decode cX4_allBounced 17 = .ok (.iload_n 2, 1) := by decide +kernel
theorem dX4_allBounced_18 : decode cX4_allBounced 18 = .ok (.baload, 1) := by decide +kernel
theorem dX4_allBounced_19 : decode cX4_allBounced 19 = .ok (.ifCond .eq 12, 3) := by decide +kernel
theorem dX4_allBounced_22 : decode cX4_allBounced 22 = .ok (.aload_n 0, 1) := by decide +kernel
theorem dX4_allBounced_23 : decode cX4_allBounced 23 = .ok (.getfield 46, 3) := by decide +kernel
theorem dX4_allBounced_26 : decode cX4_allBounced 26 = .ok (.iload_n 2, 1) := by decide +kernel
theorem dX4_allBounced_27 : decode cX4_allBounced 27 = .ok (.iaload, 1) := by decide +kernel
theorem dX4_allBounced_28 : decode cX4_allBounced 28 = .ok (.goto 4, 3) := by decide +kernel
theorem dX4_allBounced_31 : decode cX4_allBounced 31 = .ok (.iconst 0, 1) := by decide +kernel
theorem dX4_allBounced_32 : decode cX4_allBounced 32 = .ok (.iadd, 1) := by decide +kernel
theorem dX4_allBounced_33 : decode cX4_allBounced 33 = .ok (.istore_n 1, 1) := by decide +kernel
theorem dX4_allBounced_34 : decode cX4_allBounced 34 = .ok (.iinc 2 1, 3) := by decide +kernel
theorem dX4_allBounced_37 : decode cX4_allBounced 37 = .ok (.goto (-33), 3) := by decide +kernel
theorem dX4_allBounced_40 : decode cX4_allBounced 40 = .ok (.iload_n 1, 1) := by decide +kernel
theorem dX4_allBounced_41 : decode cX4_allBounced 41 = .ok (.ireturn, 1) := by decide +kernel
theorem dX4_received_0 : decode cX4_received 0 = .ok (.aload_n 0, 1) := by decide +kernel
theorem dX4_received_1 : decode cX4_received 1 = .ok (.aload_n 0, 1) := by decide +kernel
theorem dX4_received_2 : decode cX4_received 2 = .ok (.aload_n 0, 1) := by decide +kernel
theorem dX4_received_3 : decode cX4_received 3 = .ok (.getfield 46, 3) := by decide +kernel
theorem dX4_received_6 : decode cX4_received 6 = .ok (.invokevirtual 146, 3) := by decide +kernel
theorem dX4_received_9 : decode cX4_received 9 = .ok (.invokevirtual 137, 3) := by decide +kernel
theorem dX4_received_12 : decode cX4_received 12 = .ok (.ireturn, 1) := by decide +kernel
theorem dX4_applied_0 : decode cX4_applied 0 = .ok (.aload_n 0, 1) := by decide +kernel
theorem dX4_applied_1 : decode cX4_applied 1 = .ok (.aload_n 0, 1) := by decide +kernel
theorem dX4_applied_2 : decode cX4_applied 2 = .ok (.aload_n 0, 1) := by decide +kernel
theorem dX4_applied_3 : decode cX4_applied 3 = .ok (.getfield 46, 3) := by decide +kernel
theorem dX4_applied_6 : decode cX4_applied 6 = .ok (.invokevirtual 146, 3) := by decide +kernel
theorem dX4_applied_9 : decode cX4_applied 9 = .ok (.aload_n 0, 1) := by decide +kernel
theorem dX4_applied_10 : decode cX4_applied 10 = .ok (.aload_n 0, 1) := by decide +kernel
theorem dX4_applied_11 : decode cX4_applied 11 = .ok (.getfield 52, 3) := by decide +kernel
theorem dX4_applied_14 : decode cX4_applied 14 = .ok (.invokevirtual 146, 3) := by decide +kernel
theorem dX4_applied_17 : decode cX4_applied 17 = .ok (.isub, 1) := by decide +kernel
theorem dX4_applied_18 : decode cX4_applied 18 = .ok (.aload_n 0, 1) := by decide +kernel
theorem dX4_applied_19 : decode cX4_applied 19 = .ok (.aload_n 0, 1) := by decide +kernel
theorem dX4_applied_20 : decode cX4_applied 20 = .ok (.getfield 55, 3) := by decide +kernel
theorem dX4_applied_23 : decode cX4_applied 23 = .ok (.invokevirtual 146, 3) := by decide +kernel
theorem dX4_applied_26 : decode cX4_applied 26 = .ok (.isub, 1) := by decide +kernel
theorem dX4_applied_27 : decode cX4_applied 27 = .ok (.aload_n 0, 1) := by decide +kernel
theorem dX4_applied_28 : decode cX4_applied 28 = .ok (.invokevirtual 150, 3) := by decide +kernel
theorem dX4_applied_31 : decode cX4_applied 31 = .ok (.isub, 1) := by decide +kernel
theorem dX4_applied_32 : decode cX4_applied 32 = .ok (.invokevirtual 137, 3) := by decide +kernel
theorem dX4_applied_35 : decode cX4_applied 35 = .ok (.ireturn, 1) := by decide +kernel
theorem dX4_allUnapplied_0 : decode cX4_allUnapplied 0 = .ok (.aload_n 0, 1) := by decide +kernel
theorem dX4_allUnapplied_1 : decode cX4_allUnapplied 1 = .ok (.aload_n 0, 1) := by decide +kernel
theorem dX4_allUnapplied_2 : decode cX4_allUnapplied 2 = .ok (.aload_n 0, 1) := by decide +kernel
theorem dX4_allUnapplied_3 : decode cX4_allUnapplied 3 = .ok (.getfield 52, 3) := by decide +kernel
theorem dX4_allUnapplied_6 : decode cX4_allUnapplied 6 = .ok (.invokevirtual 146, 3) := by decide +kernel
theorem dX4_allUnapplied_9 : decode cX4_allUnapplied 9 = .ok (.invokevirtual 137, 3) := by decide +kernel
theorem dX4_allUnapplied_12 : decode cX4_allUnapplied 12 = .ok (.ireturn, 1) := by decide +kernel
theorem dX4_paidBack_0 : decode cX4_paidBack 0 = .ok (.aload_n 0, 1) := by decide +kernel
theorem dX4_paidBack_1 : decode cX4_paidBack 1 = .ok (.aload_n 0, 1) := by decide +kernel
theorem dX4_paidBack_2 : decode cX4_paidBack 2 = .ok (.aload_n 0, 1) := by decide +kernel
theorem dX4_paidBack_3 : decode cX4_paidBack 3 = .ok (.getfield 55, 3) := by decide +kernel
theorem dX4_paidBack_6 : decode cX4_paidBack 6 = .ok (.invokevirtual 146, 3) := by decide +kernel
theorem dX4_paidBack_9 : decode cX4_paidBack 9 = .ok (.invokevirtual 137, 3) := by decide +kernel
theorem dX4_paidBack_12 : decode cX4_paidBack 12 = .ok (.ireturn, 1) := by decide +kernel
theorem dX4_bounced_0 : decode cX4_bounced 0 = .ok (.aload_n 0, 1) := by decide +kernel
theorem dX4_bounced_1 : decode cX4_bounced 1 = .ok (.aload_n 0, 1) := by decide +kernel
theorem dX4_bounced_2 : decode cX4_bounced 2 = .ok (.invokevirtual 150, 3) := by decide +kernel
theorem dX4_bounced_5 : decode cX4_bounced 5 = .ok (.invokevirtual 137, 3) := by decide +kernel
theorem dX4_bounced_8 : decode cX4_bounced 8 = .ok (.ireturn, 1) := by decide +kernel

theorem b2_c {P Q : Prop} [Decidable P] [Decidable Q] (h : P ↔ Q) : b2 P = b2 Q := by
  unfold b2
  by_cases z : P
  · rw [if_pos z, if_pos (h.mp z)]
  · rw [if_neg z, if_neg (fun w => z (h.mpr w))]
theorem le_of_ngt32 {x y : Int32} (h : ¬ y < x) : x ≤ y := Int32.not_lt.mp h
theorem not_le_of_gt32 {x y : Int32} (h : y < x) : ¬ x ≤ y := Int32.not_le.mpr h
theorem cus7 {cu : Int32} : (¬ cu < 0 ∧ cu ≤ 7) ↔ (¬ cu < 0 ∧ cu < 8) := by
  have h7 : (7 : Int32).toInt = 7 := by decide
  have h8 : (8 : Int32).toInt = 8 := by decide
  have e1 : cu ≤ 7 ↔ cu.toInt ≤ 7 := by rw [Int32.le_iff_toInt_le, h7]
  have e2 : cu < 8 ↔ cu.toInt < 8 := by rw [Int32.lt_iff_toInt_lt, h8]
  rw [e1, e2]
  constructor
  · exact fun ⟨a, b⟩ => ⟨a, by omega⟩
  · exact fun ⟨a, b⟩ => ⟨a, by omega⟩
theorem inN {vv : Int32} {n : Nat} (hn : n < 1000) : (¬ vv < 0 ∧ vv ≤ nI n - 1) ↔ (¬ vv < 0 ∧ vv < nI n) := by
  have h1 : (nI n - 1).toInt = (n : Int) - 1 := by
    have := pk_sub_toInt (a := n) (b := 1) (by omega) (by omega)
    exact this
  have e1 : vv ≤ nI n - 1 ↔ vv.toInt ≤ (n : Int) - 1 := by rw [Int32.le_iff_toInt_le, h1]
  have e2 : vv < nI n ↔ vv.toInt < (n : Int) := by rw [Int32.lt_iff_toInt_lt, nI_toInt (by omega)]
  rw [e1, e2]
  constructor
  · exact fun ⟨a, b⟩ => ⟨a, by omega⟩
  · exact fun ⟨a, b⟩ => ⟨a, by omega⟩
/-- what stands of a bill, of the reference -/
def mopn (M : Nat → Nat → Int32) (i : Nat) : Int32 := M 4 i - M 9 i - M 10 i - M 12 i - M 14 i
def mdis (M : Nat → Nat → Int32) (i : Nat) : Int32 := if mopn M i = M 4 i ∧ ¬ (M 6 i + M 8 i) < M 1 0 then ((M 4 i).toInt64 * (M 7 i).toInt64 / 10000).toInt32 else 0
def mdue (M : Nat → Nat → Int32) (i : Nat) : Int32 := mopn M i - mdis M i
def mtk (M : Nat → Nat → Int32) (rc b : Nat) : Nat → Nat → Int32 := if ¬ mdis M b ≤ 0 then pt (pt M 10 b (mdis M b)) 11 b (nI rc) else M
def mpy2 (M : Nat → Nat → Int32) (rc b : Nat) (sm : Int32) : Nat → Nat → Int32 := pt (pt (pt (pt M 9 b (M 9 b + sm)) 18 rc (M 18 rc - sm)) 21 (40 * rc + b) (M 21 (40 * rc + b) + sm)) 22 (40 * rc + b) 1
def mpay (M : Nat → Nat → Int32) (rc b : Nat) : Nat → Nat → Int32 := if M 18 rc < mdue M b then mpy2 M rc b (M 18 rc) else mpy2 (mtk M rc b) rc b (mdue M b)
def mdsp (M : Nat → Nat → Int32) (rc b : Nat) : Nat → Nat → Int32 := pt (pt M 12 b (M 12 b + mopn M b)) 13 b (nI rc)
/-- a column that paying leaves alone -/
theorem mpay_o {M : Nat → Nat → Int32} {rc b k i : Nat} (h : k ≠ 9 ∧ k ≠ 10 ∧ k ≠ 11 ∧ k ≠ 18 ∧ k ≠ 21 ∧ k ≠ 22) : mpay M rc b k i = M k i := by
  obtain ⟨h1, h2, h3, h4, h5, h6⟩ := h
  unfold mpay mpy2 mtk
  split
  · rw [pt_o (fun z => h6 z.1), pt_o (fun z => h5 z.1), pt_o (fun z => h4 z.1), pt_o (fun z => h1 z.1)]
  · rw [pt_o (fun z => h6 z.1), pt_o (fun z => h5 z.1), pt_o (fun z => h4 z.1), pt_o (fun z => h1 z.1)]
    split
    · rw [pt_o (fun z => h3 z.1), pt_o (fun z => h2 z.1)]
    · rfl
theorem mpay_n {M : Nat → Nat → Int32} {rc b : Nat} : mpay M rc b 2 0 = M 2 0 := mpay_o (by decide)
theorem mdsp_n {M : Nat → Nat → Int32} {rc b : Nat} : mdsp M rc b 2 0 = M 2 0 := rfl
def mnm1 (rc : Nat) (rf : Int32) : Nat → Nat → (Nat → Nat → Int32) → Nat → Nat → Int32
  | 0, _, M => M
  | k + 1, i, M => if M 17 rc = -1 then (if M 5 i = rf ∧ ¬ mopn M i ≤ 0 then mnm1 rc rf k (i + 1) (pt M 17 rc (M 3 i)) else mnm1 rc rf k (i + 1) (pt M 17 rc (-1))) else M
def mnm2 (rc : Nat) (rf : Int32) : Nat → Nat → (Nat → Nat → Int32) → Nat → Nat → Int32
  | 0, _, M => M
  | k + 1, i, M => if M 3 i = M 17 rc ∧ M 5 i = rf ∧ ¬ mopn M i ≤ 0 ∧ ¬ M 18 rc ≤ 0 then (if ¬ M 18 rc < mdue M i then mnm2 rc rf k (i + 1) (mpay M rc i) else mnm2 rc rf k (i + 1) (mdsp (mpay M rc i) rc i)) else mnm2 rc rf k (i + 1) M
def mnam (M : Nat → Nat → Int32) (rc : Nat) (rf : Int32) (n : Nat) : Nat → Nat → Int32 := mnm2 rc rf n 0 (mnm1 rc rf n 0 M)
def mdo (M : Nat → Nat → Int32) (cu : Int32) (n b : Nat) : Int32 := if b < n ∧ M 3 b = cu ∧ ¬ mopn M b ≤ 0 then mdue M b else -1
def mbsm (M : Nat → Nat → Int32) : Nat → Int32
  | 0 => 0
  | k + 1 => if M 20 k = 0 then mbsm M k + 0 else mbsm M k + M 16 k
set_option maxHeartbeats 4000000 in
set_option maxRecDepth 100000 in
theorem c_X4_thrown (l : Launch) (D : va_G) (cI cZ : ClassId) (a : Nat → Nat) (sz : Nat) (M : Nat → Nat → Int32) : Met l yX4_thrown wsX4_thrown ({ frames := 0, cells := 0, slots := 0, locals := 0 } : Room) (va_Pc [.ref (a 0)] (PreW D cI cZ (wM a cI cZ M) sz)) (va_Qi (fun (r : Int32) (u : Unit) => r = M 0 0) (fun (u : Unit) => PostW D cI cZ (va_A (wM a cI cZ M) sz) (wM a cI cZ M)) (va_A (wM a cI cZ M) sz)) 0 0 (va_A (wM a cI cZ M) sz) := by
  refine Met.ofW (cc := cX4_thrown) (maxL := 1) (ret := (some .int)) (by decide) rfl ?_
  intro p e s m args below meth c s₁ BB hml hv
  obtain ⟨rfl, hsz, hP, hK, hD0⟩ := hv
  have hx := BB.exec
  have hb := BB.bytes
  have hr := BB.returns
  have hts := atoms_spec (ws := wsX4_thrown) BB.pre
  have hown : s.vm.findClass RX4 = some m.cls := findClass_of_methodNamed BB.named
  have hlocks := BB.notSynchronized
  clear BB
  subst hsz
  have hD := hD0.self (sz := s.heap.size)
  clear hD0
  generalize hAe : va_A (wM a cI cZ M) s.heap.size = A at hD ⊢
  have hA : ∀ q : Nat, s.heap.size ≤ q → A q := fun q h => by rw [← hAe]; exact Or.inr h
  clear hAe
  have hS : va_S A s.heap s.heap [] := va_S.rf
  have hl := lv_entry ([.ref (a 0)]) (n := 1) (Nat.le_of_ble_eq_true rfl)
  rw [lg_entry_eq]
  generalize (lg_sl ([.ref (a 0)]) ++ List.replicate (1 - (lg_sl ([.ref (a 0)])).length) Slot.unset).toArray = ls at hl ⊢
  have hl : lv_has ls 1 [(0, .ref (a 0))] := hl
  generalize hHe : s.heap = H at hP
  have hS : va_S A s.heap H [] := by rw [← hHe]; exact va_S.rf
  clear hHe
  generalize hLe : ([] : List Loc) = locs at hS ⊢
  clear hLe
  refine lv_aload_n hx hb dX4_thrown_0 rfl (lv_at hl 0 rfl) ?_
  refine va_get (D := D) (ci := 4) (v := .int (M 0 (0))) (C := RX4) (T := TX4) (N := 24) hx hb hts (fun w h => List.mem_cons_of_mem _ (List.mem_append_right _ h)) hown hK hP 0 rfl rfl 0 (by decide) (hts (.fieldLink RX4 71 "CashAllocatorModel" "refusal" "I") (by decide +kernel)) (fun _ h9 => h9) rfl dX4_thrown_1 ?_
  exact W.iret (v := M 0 (0)) hx hb hr (fun t ht hW => ⟨⟨M 0 (0), (), rfl, rfl, by rw [ht]; exact hP, va_K.moved hW.alike hK, hD⟩, hS.F ht⟩) hS.2.2 dX4_thrown_4
set_option maxHeartbeats 4000000 in
set_option maxRecDepth 100000 in
theorem c_X4_refused_0 (l : Launch) (D : va_G) (cI cZ : ClassId) (a : Nat → Nat) (sz : Nat) (M : Nat → Nat → Int32) (kk : Int32) (hkk : kk = 0) : Met l yX4_refused wsX4_refused ({ frames := 0, cells := 0, slots := 0, locals := 0 } : Room) (va_Pc [.ref (a 0), .int (kk)] (PreW D cI cZ (wM a cI cZ M) sz)) (va_Qi (fun (r : Int32) (u : Nat → Nat → Int32) => r = 0 ∧ u = pt M 0 0 0) (fun (u : Nat → Nat → Int32) => PostW D cI cZ (va_A (wM a cI cZ M) sz) (wM a cI cZ u)) (va_A (wM a cI cZ M) sz)) 0 0 (va_A (wM a cI cZ M) sz) := by
  refine Met.ofW (cc := cX4_refused) (maxL := 2) (ret := (some .boolean)) (by decide) rfl ?_
  intro p e s m args below meth c s₁ BB hml hv
  obtain ⟨rfl, hsz, hP, hK, hD0⟩ := hv
  have hx := BB.exec
  have hb := BB.bytes
  have hr := BB.returns
  have hts := atoms_spec (ws := wsX4_refused) BB.pre
  have hown : s.vm.findClass RX4 = some m.cls := findClass_of_methodNamed BB.named
  have hlocks := BB.notSynchronized
  clear BB
  subst hsz
  have hD := hD0.self (sz := s.heap.size)
  clear hD0
  generalize hAe : va_A (wM a cI cZ M) s.heap.size = A at hD ⊢
  have hA : ∀ q : Nat, s.heap.size ≤ q → A q := fun q h => by rw [← hAe]; exact Or.inr h
  clear hAe
  have hS : va_S A s.heap s.heap [] := va_S.rf
  have hl := lv_entry ([.ref (a 0), .int (kk)]) (n := 2) (Nat.le_of_ble_eq_true rfl)
  rw [lg_entry_eq]
  generalize (lg_sl ([.ref (a 0), .int (kk)]) ++ List.replicate (2 - (lg_sl ([.ref (a 0), .int (kk)])).length) Slot.unset).toArray = ls at hl ⊢
  have hl : lv_has ls 2 [(0, .ref (a 0)), (1, .int (kk))] := hl
  generalize hHe : s.heap = H at hP
  have hS : va_S A s.heap H [] := by rw [← hHe]; exact va_S.rf
  clear hHe
  generalize hLe : ([] : List Loc) = locs at hS ⊢
  clear hLe
  subst hkk
  refine lv_aload_n hx hb dX4_refused_0 rfl (lv_at hl 0 rfl) ?_
  refine lv_iload_n hx hb dX4_refused_1 rfl (lv_at hl 1 rfl) ?_
  refine va_put (D := D) (ci := 4) (v := .int (0)) (ty := .int) (C := RX4) (T := TX4) (N := 24) hx hb hts (fun w h => List.mem_cons_of_mem _ (List.mem_append_right _ h)) tyX4 tyX4_ok nmX4 hown hK hP hD hS 0 rfl rfl 0 (by decide) (hts (.fieldLink RX4 71 "CashAllocatorModel" "refusal" "I") (by decide +kernel)) (fun _ h9 => h9) rfl (by decide +kernel) rfl rfl (Nat.le_of_ble_eq_true rfl) dX4_refused_2 (fun H locs hP hD hS => ?_)
  have hP : va_P D vwCl (wM a cI cZ (pt M 0 (0) (0))) H := hP
  have hD : va_D A (wM a cI cZ (pt M 0 (0) (0))) := hD
  refine lv_iload_n hx hb dX4_refused_5 rfl (lv_at hl 1 rfl) ?_
  refine lv_if_eq (tgt := 13) hx hb dX4_refused_6 (by decide) (fun c6 => ?_) (fun c6 => ?_)
  · -- 6 taken
    refine lv_iconst (v := 0) hx hb dX4_refused_13 (by decide) ?_
    exact W.zret (ty := .boolean) (v := 0) hx hb hr (by decide) (fun t ht hW => ⟨⟨0, (pt M 0 (0) (0)), rfl, ⟨rfl, rfl⟩, by rw [ht]; exact hP, va_K.moved hW.alike hK, hD⟩, hS.F ht⟩) hS.2.2 dX4_refused_14
  · -- 6 on
    exact absurd c6 (by decide)
set_option maxHeartbeats 4000000 in
set_option maxRecDepth 100000 in
theorem c_X4_refused_k (l : Launch) (D : va_G) (cI cZ : ClassId) (a : Nat → Nat) (sz : Nat) (M : Nat → Nat → Int32) (kk : Int32) (hkk : ¬ kk = 0) : Met l yX4_refused wsX4_refused ({ frames := 0, cells := 0, slots := 0, locals := 0 } : Room) (va_Pc [.ref (a 0), .int (kk)] (PreW D cI cZ (wM a cI cZ M) sz)) (va_Qi (fun (r : Int32) (u : Nat → Nat → Int32) => r = 1 ∧ u = pt M 0 0 kk) (fun (u : Nat → Nat → Int32) => PostW D cI cZ (va_A (wM a cI cZ M) sz) (wM a cI cZ u)) (va_A (wM a cI cZ M) sz)) 0 0 (va_A (wM a cI cZ M) sz) := by
  refine Met.ofW (cc := cX4_refused) (maxL := 2) (ret := (some .boolean)) (by decide) rfl ?_
  intro p e s m args below meth c s₁ BB hml hv
  obtain ⟨rfl, hsz, hP, hK, hD0⟩ := hv
  have hx := BB.exec
  have hb := BB.bytes
  have hr := BB.returns
  have hts := atoms_spec (ws := wsX4_refused) BB.pre
  have hown : s.vm.findClass RX4 = some m.cls := findClass_of_methodNamed BB.named
  have hlocks := BB.notSynchronized
  clear BB
  subst hsz
  have hD := hD0.self (sz := s.heap.size)
  clear hD0
  generalize hAe : va_A (wM a cI cZ M) s.heap.size = A at hD ⊢
  have hA : ∀ q : Nat, s.heap.size ≤ q → A q := fun q h => by rw [← hAe]; exact Or.inr h
  clear hAe
  have hS : va_S A s.heap s.heap [] := va_S.rf
  have hl := lv_entry ([.ref (a 0), .int (kk)]) (n := 2) (Nat.le_of_ble_eq_true rfl)
  rw [lg_entry_eq]
  generalize (lg_sl ([.ref (a 0), .int (kk)]) ++ List.replicate (2 - (lg_sl ([.ref (a 0), .int (kk)])).length) Slot.unset).toArray = ls at hl ⊢
  have hl : lv_has ls 2 [(0, .ref (a 0)), (1, .int (kk))] := hl
  generalize hHe : s.heap = H at hP
  have hS : va_S A s.heap H [] := by rw [← hHe]; exact va_S.rf
  clear hHe
  generalize hLe : ([] : List Loc) = locs at hS ⊢
  clear hLe
  refine lv_aload_n hx hb dX4_refused_0 rfl (lv_at hl 0 rfl) ?_
  refine lv_iload_n hx hb dX4_refused_1 rfl (lv_at hl 1 rfl) ?_
  refine va_put (D := D) (ci := 4) (v := .int (kk)) (ty := .int) (C := RX4) (T := TX4) (N := 24) hx hb hts (fun w h => List.mem_cons_of_mem _ (List.mem_append_right _ h)) tyX4 tyX4_ok nmX4 hown hK hP hD hS 0 rfl rfl 0 (by decide) (hts (.fieldLink RX4 71 "CashAllocatorModel" "refusal" "I") (by decide +kernel)) (fun _ h9 => h9) rfl (by decide +kernel) rfl rfl (Nat.le_of_ble_eq_true rfl) dX4_refused_2 (fun H locs hP hD hS => ?_)
  have hP : va_P D vwCl (wM a cI cZ (pt M 0 (0) (kk))) H := hP
  have hD : va_D A (wM a cI cZ (pt M 0 (0) (kk))) := hD
  refine lv_iload_n hx hb dX4_refused_5 rfl (lv_at hl 1 rfl) ?_
  refine lv_if_eq (tgt := 13) hx hb dX4_refused_6 (by decide) (fun c6 => ?_) (fun c6 => ?_)
  · -- 6 taken
    exact absurd c6 hkk
  · -- 6 on
    refine lv_iconst (v := 1) hx hb dX4_refused_9 (by decide) ?_
    refine lv_goto (tgt := 14) hx hb dX4_refused_10 (by decide) ?_
    exact W.zret (ty := .boolean) (v := 1) hx hb hr (by decide) (fun t ht hW => ⟨⟨1, (pt M 0 (0) (kk)), rfl, ⟨rfl, rfl⟩, by rw [ht]; exact hP, va_K.moved hW.alike hK, hD⟩, hS.F ht⟩) hS.2.2 dX4_refused_14
set_option maxHeartbeats 4000000 in
set_option maxRecDepth 100000 in
theorem c_X4_fine (l : Launch) (D : va_G) (cI cZ : ClassId) (a : Nat → Nat) (sz : Nat) (M : Nat → Nat → Int32) (vv : Int32) : Met l yX4_fine wsX4_fine ({ frames := 0, cells := 0, slots := 0, locals := 0 } : Room) (va_Pc [.ref (a 0), .int (vv)] (PreW D cI cZ (wM a cI cZ M) sz)) (va_Qi (fun (r : Int32) (u : Nat → Nat → Int32) => r = vv ∧ u = pt M 0 0 0) (fun (u : Nat → Nat → Int32) => PostW D cI cZ (va_A (wM a cI cZ M) sz) (wM a cI cZ u)) (va_A (wM a cI cZ M) sz)) 0 0 (va_A (wM a cI cZ M) sz) := by
  refine Met.ofW (cc := cX4_fine) (maxL := 2) (ret := (some .int)) (by decide) rfl ?_
  intro p e s m args below meth c s₁ BB hml hv
  obtain ⟨rfl, hsz, hP, hK, hD0⟩ := hv
  have hx := BB.exec
  have hb := BB.bytes
  have hr := BB.returns
  have hts := atoms_spec (ws := wsX4_fine) BB.pre
  have hown : s.vm.findClass RX4 = some m.cls := findClass_of_methodNamed BB.named
  have hlocks := BB.notSynchronized
  clear BB
  subst hsz
  have hD := hD0.self (sz := s.heap.size)
  clear hD0
  generalize hAe : va_A (wM a cI cZ M) s.heap.size = A at hD ⊢
  have hA : ∀ q : Nat, s.heap.size ≤ q → A q := fun q h => by rw [← hAe]; exact Or.inr h
  clear hAe
  have hS : va_S A s.heap s.heap [] := va_S.rf
  have hl := lv_entry ([.ref (a 0), .int (vv)]) (n := 2) (Nat.le_of_ble_eq_true rfl)
  rw [lg_entry_eq]
  generalize (lg_sl ([.ref (a 0), .int (vv)]) ++ List.replicate (2 - (lg_sl ([.ref (a 0), .int (vv)])).length) Slot.unset).toArray = ls at hl ⊢
  have hl : lv_has ls 2 [(0, .ref (a 0)), (1, .int (vv))] := hl
  generalize hHe : s.heap = H at hP
  have hS : va_S A s.heap H [] := by rw [← hHe]; exact va_S.rf
  clear hHe
  generalize hLe : ([] : List Loc) = locs at hS ⊢
  clear hLe
  refine lv_aload_n hx hb dX4_fine_0 rfl (lv_at hl 0 rfl) ?_
  refine lv_iconst (v := 0) hx hb dX4_fine_1 (by decide) ?_
  refine va_put (D := D) (ci := 4) (v := .int (0)) (ty := .int) (C := RX4) (T := TX4) (N := 24) hx hb hts (fun w h => List.mem_cons_of_mem _ (List.mem_append_right _ h)) tyX4 tyX4_ok nmX4 hown hK hP hD hS 0 rfl rfl 0 (by decide) (hts (.fieldLink RX4 71 "CashAllocatorModel" "refusal" "I") (by decide +kernel)) (fun _ h9 => h9) rfl (by decide +kernel) rfl rfl (Nat.le_of_ble_eq_true rfl) dX4_fine_2 (fun H locs hP hD hS => ?_)
  have hP : va_P D vwCl (wM a cI cZ (pt M 0 (0) (0))) H := hP
  have hD : va_D A (wM a cI cZ (pt M 0 (0) (0))) := hD
  refine lv_iload_n hx hb dX4_fine_5 rfl (lv_at hl 1 rfl) ?_
  exact W.iret (v := vv) hx hb hr (fun t ht hW => ⟨⟨vv, (pt M 0 (0) (0)), rfl, ⟨rfl, rfl⟩, by rw [ht]; exact hP, va_K.moved hW.alike hK, hD⟩, hS.F ht⟩) hS.2.2 dX4_fine_6
set_option maxHeartbeats 4000000 in
set_option maxRecDepth 100000 in
theorem c_X4_in (l : Launch) (D : va_G) (cI cZ : ClassId) (a : Nat → Nat) (sz : Nat) (vv : Int32) (lo : Int32) (hi : Int32) : Met l yX4_in wsX4_in ({ frames := 0, cells := 0, slots := 0, locals := 0 } : Room) (va_Pc [.int (vv), .int (lo), .int (hi)] (PreW D cI cZ ([] : va_W) sz)) (va_Qi (fun (r : Int32) (u : Unit) => r = b2 (¬ vv < lo ∧ vv ≤ hi)) (fun (u : Unit) => PostW D cI cZ (va_A ([] : va_W) sz) ([] : va_W)) (va_A ([] : va_W) sz)) 0 0 (va_A ([] : va_W) sz) := by
  refine Met.ofW (cc := cX4_in) (maxL := 3) (ret := (some .boolean)) (by decide) rfl ?_
  intro p e s m args below meth c s₁ BB hml hv
  obtain ⟨rfl, hsz, hP, hK, hD0⟩ := hv
  have hx := BB.exec
  have hb := BB.bytes
  have hr := BB.returns
  have hts := atoms_spec (ws := wsX4_in) BB.pre
  have hown : s.vm.findClass RX4 = some m.cls := findClass_of_methodNamed BB.named
  have hlocks := BB.notSynchronized
  clear BB
  subst hsz
  have hD := hD0.self (sz := s.heap.size)
  clear hD0
  generalize hAe : va_A ([] : va_W) s.heap.size = A at hD ⊢
  have hA : ∀ q : Nat, s.heap.size ≤ q → A q := fun q h => by rw [← hAe]; exact Or.inr h
  clear hAe
  have hS : va_S A s.heap s.heap [] := va_S.rf
  have hl := lv_entry ([.int (vv), .int (lo), .int (hi)]) (n := 3) (Nat.le_of_ble_eq_true rfl)
  rw [lg_entry_eq]
  generalize (lg_sl ([.int (vv), .int (lo), .int (hi)]) ++ List.replicate (3 - (lg_sl ([.int (vv), .int (lo), .int (hi)])).length) Slot.unset).toArray = ls at hl ⊢
  have hl : lv_has ls 3 [(0, .int (vv)), (1, .int (lo)), (2, .int (hi))] := hl
  generalize hHe : s.heap = H at hP
  have hS : va_S A s.heap H [] := by rw [← hHe]; exact va_S.rf
  clear hHe
  generalize hLe : ([] : List Loc) = locs at hS ⊢
  clear hLe
  refine lv_iload_n hx hb dX4_in_0 rfl (lv_at hl 0 rfl) ?_
  refine lv_iload_n hx hb dX4_in_1 rfl (lv_at hl 1 rfl) ?_
  refine lv_icmp_lt (tgt := 14) hx hb dX4_in_2 (by decide) (fun c2 => ?_) (fun c2 => ?_)
  · -- 2 taken
    refine lv_iconst (v := 0) hx hb dX4_in_14 (by decide) ?_
    exact W.zret (ty := .boolean) (v := 0) hx hb hr (by decide) (fun t ht hW => ⟨⟨0, (), rfl, (if_neg (fun z => z.1 c2)).symm, by rw [ht]; exact hP, va_K.moved hW.alike hK, hD⟩, hS.F ht⟩) hS.2.2 dX4_in_15
  · -- 2 on
    refine lv_iload_n hx hb dX4_in_5 rfl (lv_at hl 0 rfl) ?_
    refine lv_iload_n hx hb dX4_in_6 rfl (lv_at hl 2 rfl) ?_
    refine lv_icmp_gt (tgt := 14) hx hb dX4_in_7 (by decide) (fun c7 => ?_) (fun c7 => ?_)
    · -- 7 taken
      refine lv_iconst (v := 0) hx hb dX4_in_14 (by decide) ?_
      exact W.zret (ty := .boolean) (v := 0) hx hb hr (by decide) (fun t ht hW => ⟨⟨0, (), rfl, (if_neg (fun z => not_le_of_gt32 c7 z.2)).symm, by rw [ht]; exact hP, va_K.moved hW.alike hK, hD⟩, hS.F ht⟩) hS.2.2 dX4_in_15
    · -- 7 on
      refine lv_iconst (v := 1) hx hb dX4_in_10 (by decide) ?_
      refine lv_goto (tgt := 15) hx hb dX4_in_11 (by decide) ?_
      exact W.zret (ty := .boolean) (v := 1) hx hb hr (by decide) (fun t ht hW => ⟨⟨1, (), rfl, (if_pos ⟨c2, le_of_ngt32 c7⟩).symm, by rw [ht]; exact hP, va_K.moved hW.alike hK, hD⟩, hS.F ht⟩) hS.2.2 dX4_in_15
set_option maxHeartbeats 4000000 in
set_option maxRecDepth 100000 in
theorem c_X4_isCustomer (l : Launch) (D : va_G) (cI cZ : ClassId) (a : Nat → Nat) (sz : Nat) (cu : Int32) : Met l yX4_isCustomer wsX4_isCustomer ({ frames := 1, cells := 0, slots := 0, locals := 22 } : Room) (va_Pc [.int (cu)] (PreW D cI cZ ([] : va_W) sz)) (va_Qi (fun (r : Int32) (u : Unit) => r = b2 (¬ cu < 0 ∧ cu < 8)) (fun (u : Unit) => PostW D cI cZ (va_A ([] : va_W) sz) ([] : va_W)) (va_A ([] : va_W) sz)) 0 0 (va_A ([] : va_W) sz) := by
  refine Met.ofW (cc := cX4_isCustomer) (maxL := 1) (ret := (some .boolean)) (by decide) rfl ?_
  intro p e s m args below meth c s₁ BB hml hv
  obtain ⟨rfl, hsz, hP, hK, hD0⟩ := hv
  have hx := BB.exec
  have hb := BB.bytes
  have hr := BB.returns
  have hts := atoms_spec (ws := wsX4_isCustomer) BB.pre
  have hown : s.vm.findClass RX4 = some m.cls := findClass_of_methodNamed BB.named
  have hlocks := BB.notSynchronized
  clear BB
  subst hsz
  have hD := hD0.self (sz := s.heap.size)
  clear hD0
  generalize hAe : va_A ([] : va_W) s.heap.size = A at hD ⊢
  have hA : ∀ q : Nat, s.heap.size ≤ q → A q := fun q h => by rw [← hAe]; exact Or.inr h
  clear hAe
  have hS : va_S A s.heap s.heap [] := va_S.rf
  have hl := lv_entry ([.int (cu)]) (n := 1) (Nat.le_of_ble_eq_true rfl)
  rw [lg_entry_eq]
  generalize (lg_sl ([.int (cu)]) ++ List.replicate (1 - (lg_sl ([.int (cu)])).length) Slot.unset).toArray = ls at hl ⊢
  have hl : lv_has ls 1 [(0, .int (cu))] := hl
  generalize hHe : s.heap = H at hP
  have hS : va_S A s.heap H [] := by rw [← hHe]; exact va_S.rf
  clear hHe
  generalize hLe : ([] : List Loc) = locs at hS ⊢
  clear hLe
  refine lv_iload_n hx hb dX4_isCustomer_0 rfl (lv_at hl 0 rfl) ?_
  refine lv_iconst (v := 0) hx hb dX4_isCustomer_1 (by decide) ?_
  refine lv_bipush (v := 7) hx hb dX4_isCustomer_2 (by decide) ?_
  refine zcSi (wf := (fun (u : Unit) => ([] : va_W))) (List.range 0) ⟨hx, hb, hml, hown, hts⟩ (zwAll 0 (by decide) rfl hP hD hS hA) hK (c_X4_in l D cI cZ a H.size (cu) (0) (7) ) (cwS 3 hts gX4_isCustomer_X4_in rfl rfl rfl (by decide +kernel) ⟨Nat.le_of_ble_eq_true rfl, Nat.le_of_ble_eq_true rfl⟩) (by decide) (fun _ => rfl) rfl hl.1 rfl (Nat.le_of_ble_eq_true rfl) dX4_isCustomer_4 ⟨Nat.le_of_ble_eq_true rfl, Nat.le_of_ble_eq_true rfl⟩ (fun r4 u H locs hw hP hD hS => ?_)
  subst hw
  exact W.zret (ty := .boolean) (v := b2 (¬ (cu) < (0) ∧ (cu) ≤ (7))) hx hb hr (b2_n) (fun t ht hW => ⟨⟨b2 (¬ (cu) < (0) ∧ (cu) ≤ (7)), (), rfl, b2_c cus7, by rw [ht]; exact hP, va_K.moved hW.alike hK, hD⟩, hS.F ht⟩) hS.2.2 dX4_isCustomer_7
set_option maxHeartbeats 4000000 in
set_option maxRecDepth 100000 in
theorem c_X4_isBill (l : Launch) (D : va_G) (cI cZ : ClassId) (a : Nat → Nat) (sz : Nat) (M : Nat → Nat → Int32) (vv : Int32) (n : Nat) (hM : M 2 0 = nI n) (hn : n ≤ 40) : Met l yX4_isBill wsX4_isBill ({ frames := 1, cells := 0, slots := 0, locals := 22 } : Room) (va_Pc [.ref (a 0), .int (vv)] (PreW D cI cZ (wM a cI cZ M) sz)) (va_Qi (fun (r : Int32) (u : Unit) => r = b2 (¬ vv < 0 ∧ vv < nI n)) (fun (u : Unit) => PostW D cI cZ (va_A (wM a cI cZ M) sz) (wM a cI cZ M)) (va_A (wM a cI cZ M) sz)) 0 0 (va_A (wM a cI cZ M) sz) := by
  refine Met.ofW (cc := cX4_isBill) (maxL := 2) (ret := (some .boolean)) (by decide) rfl ?_
  intro p e s m args below meth c s₁ BB hml hv
  obtain ⟨rfl, hsz, hP, hK, hD0⟩ := hv
  have hx := BB.exec
  have hb := BB.bytes
  have hr := BB.returns
  have hts := atoms_spec (ws := wsX4_isBill) BB.pre
  have hown : s.vm.findClass RX4 = some m.cls := findClass_of_methodNamed BB.named
  have hlocks := BB.notSynchronized
  clear BB
  subst hsz
  have hD := hD0.self (sz := s.heap.size)
  clear hD0
  generalize hAe : va_A (wM a cI cZ M) s.heap.size = A at hD ⊢
  have hA : ∀ q : Nat, s.heap.size ≤ q → A q := fun q h => by rw [← hAe]; exact Or.inr h
  clear hAe
  have hS : va_S A s.heap s.heap [] := va_S.rf
  have hl := lv_entry ([.ref (a 0), .int (vv)]) (n := 2) (Nat.le_of_ble_eq_true rfl)
  rw [lg_entry_eq]
  generalize (lg_sl ([.ref (a 0), .int (vv)]) ++ List.replicate (2 - (lg_sl ([.ref (a 0), .int (vv)])).length) Slot.unset).toArray = ls at hl ⊢
  have hl : lv_has ls 2 [(0, .ref (a 0)), (1, .int (vv))] := hl
  generalize hHe : s.heap = H at hP
  have hS : va_S A s.heap H [] := by rw [← hHe]; exact va_S.rf
  clear hHe
  generalize hLe : ([] : List Loc) = locs at hS ⊢
  clear hLe
  refine lv_iload_n hx hb dX4_isBill_0 rfl (lv_at hl 1 rfl) ?_
  refine lv_iconst (v := 0) hx hb dX4_isBill_1 (by decide) ?_
  refine lv_aload_n hx hb dX4_isBill_2 rfl (lv_at hl 0 rfl) ?_
  refine va_get (D := D) (ci := 4) (v := .int (nI (n))) (C := RX4) (T := TX4) (N := 24) hx hb hts (fun w h => List.mem_cons_of_mem _ (List.mem_append_right _ h)) hown hK hP 0 rfl rfl 2 (by decide) (hts (.fieldLink RX4 79 "CashAllocatorModel" "bills" "I") (by decide +kernel)) (fun _ h9 => h9) (congrArg (fun z => some (Value.int z)) hM) dX4_isBill_3 ?_
  refine lv_iconst (v := 1) hx hb dX4_isBill_6 (by decide) ?_
  refine lv_isub hx hb dX4_isBill_7 ?_
  refine zcSi (wf := (fun (u : Unit) => (wM a cI cZ M))) (List.range 21) ⟨hx, hb, hml, hown, hts⟩ (zwNo 21 (by decide) rfl hP hD hS hA) hK (c_X4_in l D cI cZ a H.size (vv) (0) ((nI (n)) - (1)) ) (cwS 3 hts gX4_isBill_X4_in rfl rfl rfl (by decide +kernel) ⟨Nat.le_of_ble_eq_true rfl, Nat.le_of_ble_eq_true rfl⟩) (by decide) (fun _ => rfl) rfl hl.1 rfl (Nat.le_of_ble_eq_true rfl) dX4_isBill_8 ⟨Nat.le_of_ble_eq_true rfl, Nat.le_of_ble_eq_true rfl⟩ (fun r8 u H locs hw hP hD hS => ?_)
  subst hw
  exact W.zret (ty := .boolean) (v := b2 (¬ (vv) < (0) ∧ (vv) ≤ ((nI (n)) - (1)))) hx hb hr (b2_n) (fun t ht hW => ⟨⟨b2 (¬ (vv) < (0) ∧ (vv) ≤ ((nI (n)) - (1))), (), rfl, b2_c (inN (by omega)), by rw [ht]; exact hP, va_K.moved hW.alike hK, hD⟩, hS.F ht⟩) hS.2.2 dX4_isBill_11
set_option maxHeartbeats 4000000 in
set_option maxRecDepth 100000 in
theorem c_X4_isReceipt (l : Launch) (D : va_G) (cI cZ : ClassId) (a : Nat → Nat) (sz : Nat) (M : Nat → Nat → Int32) (vv : Int32) (q : Nat) (hMq : M 15 0 = nI q) (hq : q ≤ 30) : Met l yX4_isReceipt wsX4_isReceipt ({ frames := 1, cells := 0, slots := 0, locals := 22 } : Room) (va_Pc [.ref (a 0), .int (vv)] (PreW D cI cZ (wM a cI cZ M) sz)) (va_Qi (fun (r : Int32) (u : Unit) => r = b2 (¬ vv < 0 ∧ vv < nI q)) (fun (u : Unit) => PostW D cI cZ (va_A (wM a cI cZ M) sz) (wM a cI cZ M)) (va_A (wM a cI cZ M) sz)) 0 0 (va_A (wM a cI cZ M) sz) := by
  refine Met.ofW (cc := cX4_isReceipt) (maxL := 2) (ret := (some .boolean)) (by decide) rfl ?_
  intro p e s m args below meth c s₁ BB hml hv
  obtain ⟨rfl, hsz, hP, hK, hD0⟩ := hv
  have hx := BB.exec
  have hb := BB.bytes
  have hr := BB.returns
  have hts := atoms_spec (ws := wsX4_isReceipt) BB.pre
  have hown : s.vm.findClass RX4 = some m.cls := findClass_of_methodNamed BB.named
  have hlocks := BB.notSynchronized
  clear BB
  subst hsz
  have hD := hD0.self (sz := s.heap.size)
  clear hD0
  generalize hAe : va_A (wM a cI cZ M) s.heap.size = A at hD ⊢
  have hA : ∀ q : Nat, s.heap.size ≤ q → A q := fun q h => by rw [← hAe]; exact Or.inr h
  clear hAe
  have hS : va_S A s.heap s.heap [] := va_S.rf
  have hl := lv_entry ([.ref (a 0), .int (vv)]) (n := 2) (Nat.le_of_ble_eq_true rfl)
  rw [lg_entry_eq]
  generalize (lg_sl ([.ref (a 0), .int (vv)]) ++ List.replicate (2 - (lg_sl ([.ref (a 0), .int (vv)])).length) Slot.unset).toArray = ls at hl ⊢
  have hl : lv_has ls 2 [(0, .ref (a 0)), (1, .int (vv))] := hl
  generalize hHe : s.heap = H at hP
  have hS : va_S A s.heap H [] := by rw [← hHe]; exact va_S.rf
  clear hHe
  generalize hLe : ([] : List Loc) = locs at hS ⊢
  clear hLe
  refine lv_iload_n hx hb dX4_isReceipt_0 rfl (lv_at hl 1 rfl) ?_
  refine lv_iconst (v := 0) hx hb dX4_isReceipt_1 (by decide) ?_
  refine lv_aload_n hx hb dX4_isReceipt_2 rfl (lv_at hl 0 rfl) ?_
  refine va_get (D := D) (ci := 4) (v := .int (nI (q))) (C := RX4) (T := TX4) (N := 24) hx hb hts (fun w h => List.mem_cons_of_mem _ (List.mem_append_right _ h)) hown hK hP 0 rfl rfl 15 (by decide) (hts (.fieldLink RX4 82 "CashAllocatorModel" "receipts" "I") (by decide +kernel)) (fun _ h9 => h9) (congrArg (fun z => some (Value.int z)) hMq) dX4_isReceipt_3 ?_
  refine lv_iconst (v := 1) hx hb dX4_isReceipt_6 (by decide) ?_
  refine lv_isub hx hb dX4_isReceipt_7 ?_
  refine zcSi (wf := (fun (u : Unit) => (wM a cI cZ M))) (List.range 21) ⟨hx, hb, hml, hown, hts⟩ (zwNo 21 (by decide) rfl hP hD hS hA) hK (c_X4_in l D cI cZ a H.size (vv) (0) ((nI (q)) - (1)) ) (cwS 3 hts gX4_isReceipt_X4_in rfl rfl rfl (by decide +kernel) ⟨Nat.le_of_ble_eq_true rfl, Nat.le_of_ble_eq_true rfl⟩) (by decide) (fun _ => rfl) rfl hl.1 rfl (Nat.le_of_ble_eq_true rfl) dX4_isReceipt_8 ⟨Nat.le_of_ble_eq_true rfl, Nat.le_of_ble_eq_true rfl⟩ (fun r8 u H locs hw hP hD hS => ?_)
  subst hw
  exact W.zret (ty := .boolean) (v := b2 (¬ (vv) < (0) ∧ (vv) ≤ ((nI (q)) - (1)))) hx hb hr (b2_n) (fun t ht hW => ⟨⟨b2 (¬ (vv) < (0) ∧ (vv) ≤ ((nI (q)) - (1))), (), rfl, b2_c (inN (by omega)), by rw [ht]; exact hP, va_K.moved hW.alike hK, hD⟩, hS.F ht⟩) hS.2.2 dX4_isReceipt_11
set_option maxHeartbeats 4000000 in
set_option maxRecDepth 100000 in
theorem c_X4_openNow (l : Launch) (D : va_G) (cI cZ : ClassId) (a : Nat → Nat) (sz : Nat) (M : Nat → Nat → Int32) (i : Nat) (hi : i < 40) : Met l yX4_openNow wsX4_openNow ({ frames := 0, cells := 0, slots := 0, locals := 0 } : Room) (va_Pc [.ref (a 0), .int (nI (i))] (PreW D cI cZ (wM a cI cZ M) sz)) (va_Qi (fun (r : Int32) (u : Unit) => r = mopn M i) (fun (u : Unit) => PostW D cI cZ (va_A (wM a cI cZ M) sz) (wM a cI cZ M)) (va_A (wM a cI cZ M) sz)) 0 0 (va_A (wM a cI cZ M) sz) := by
  refine Met.ofW (cc := cX4_openNow) (maxL := 2) (ret := (some .int)) (by decide) rfl ?_
  intro p e s m args below meth c s₁ BB hml hv
  obtain ⟨rfl, hsz, hP, hK, hD0⟩ := hv
  have hx := BB.exec
  have hb := BB.bytes
  have hr := BB.returns
  have hts := atoms_spec (ws := wsX4_openNow) BB.pre
  have hown : s.vm.findClass RX4 = some m.cls := findClass_of_methodNamed BB.named
  have hlocks := BB.notSynchronized
  clear BB
  subst hsz
  have hD := hD0.self (sz := s.heap.size)
  clear hD0
  generalize hAe : va_A (wM a cI cZ M) s.heap.size = A at hD ⊢
  have hA : ∀ q : Nat, s.heap.size ≤ q → A q := fun q h => by rw [← hAe]; exact Or.inr h
  clear hAe
  have hS : va_S A s.heap s.heap [] := va_S.rf
  have hl := lv_entry ([.ref (a 0), .int (nI (i))]) (n := 2) (Nat.le_of_ble_eq_true rfl)
  rw [lg_entry_eq]
  generalize (lg_sl ([.ref (a 0), .int (nI (i))]) ++ List.replicate (2 - (lg_sl ([.ref (a 0), .int (nI (i))])).length) Slot.unset).toArray = ls at hl ⊢
  have hl : lv_has ls 2 [(0, .ref (a 0)), (1, .int (nI (i)))] := hl
  generalize hHe : s.heap = H at hP
  have hS : va_S A s.heap H [] := by rw [← hHe]; exact va_S.rf
  clear hHe
  generalize hLe : ([] : List Loc) = locs at hS ⊢
  clear hLe
  refine lv_aload_n hx hb dX4_openNow_0 rfl (lv_at hl 0 rfl) ?_
  refine va_get (D := D) (ci := 4) (v := .ref (a 2)) (C := RX4) (T := TX4) (N := 24) hx hb hts (fun w h => List.mem_cons_of_mem _ (List.mem_append_right _ h)) hown hK hP 0 rfl rfl 4 (by decide) (hts (.fieldLink RX4 13 "CashAllocatorModel" "amounts" "[I") (by decide +kernel)) (fun _ h9 => h9) rfl dX4_openNow_1 ?_
  refine lv_iload_n hx hb dX4_openNow_4 rfl (lv_at hl 1 rfl) ?_
  refine zald hx hb hK hP 2 (n := 40) (f := (M 4)) rfl (i) rfl (by omega) (by decide) dX4_openNow_5 ?_
  refine lv_aload_n hx hb dX4_openNow_6 rfl (lv_at hl 0 rfl) ?_
  refine va_get (D := D) (ci := 4) (v := .ref (a 7)) (C := RX4) (T := TX4) (N := 24) hx hb hts (fun w h => List.mem_cons_of_mem _ (List.mem_append_right _ h)) hown hK hP 0 rfl rfl 9 (by decide) (hts (.fieldLink RX4 28 "CashAllocatorModel" "paidOf" "[I") (by decide +kernel)) (fun _ h9 => h9) rfl dX4_openNow_7 ?_
  refine lv_iload_n hx hb dX4_openNow_10 rfl (lv_at hl 1 rfl) ?_
  refine zald hx hb hK hP 7 (n := 40) (f := (M 9)) rfl (i) rfl (by omega) (by decide) dX4_openNow_11 ?_
  refine lv_isub hx hb dX4_openNow_12 ?_
  refine lv_aload_n hx hb dX4_openNow_13 rfl (lv_at hl 0 rfl) ?_
  refine va_get (D := D) (ci := 4) (v := .ref (a 8)) (C := RX4) (T := TX4) (N := 24) hx hb hts (fun w h => List.mem_cons_of_mem _ (List.mem_append_right _ h)) hown hK hP 0 rfl rfl 10 (by decide) (hts (.fieldLink RX4 31 "CashAllocatorModel" "takenOf" "[I") (by decide +kernel)) (fun _ h9 => h9) rfl dX4_openNow_14 ?_
  refine lv_iload_n hx hb dX4_openNow_17 rfl (lv_at hl 1 rfl) ?_
  refine zald hx hb hK hP 8 (n := 40) (f := (M 10)) rfl (i) rfl (by omega) (by decide) dX4_openNow_18 ?_
  refine lv_isub hx hb dX4_openNow_19 ?_
  refine lv_aload_n hx hb dX4_openNow_20 rfl (lv_at hl 0 rfl) ?_
  refine va_get (D := D) (ci := 4) (v := .ref (a 10)) (C := RX4) (T := TX4) (N := 24) hx hb hts (fun w h => List.mem_cons_of_mem _ (List.mem_append_right _ h)) hown hK hP 0 rfl rfl 12 (by decide) (hts (.fieldLink RX4 37 "CashAllocatorModel" "disputedOf" "[I") (by decide +kernel)) (fun _ h9 => h9) rfl dX4_openNow_21 ?_
  refine lv_iload_n hx hb dX4_openNow_24 rfl (lv_at hl 1 rfl) ?_
  refine zald hx hb hK hP 10 (n := 40) (f := (M 12)) rfl (i) rfl (by omega) (by decide) dX4_openNow_25 ?_
  refine lv_isub hx hb dX4_openNow_26 ?_
  refine lv_aload_n hx hb dX4_openNow_27 rfl (lv_at hl 0 rfl) ?_
  refine va_get (D := D) (ci := 4) (v := .ref (a 12)) (C := RX4) (T := TX4) (N := 24) hx hb hts (fun w h => List.mem_cons_of_mem _ (List.mem_append_right _ h)) hown hK hP 0 rfl rfl 14 (by decide) (hts (.fieldLink RX4 43 "CashAllocatorModel" "writtenOf" "[I") (by decide +kernel)) (fun _ h9 => h9) rfl dX4_openNow_28 ?_
  refine lv_iload_n hx hb dX4_openNow_31 rfl (lv_at hl 1 rfl) ?_
  refine zald hx hb hK hP 12 (n := 40) (f := (M 14)) rfl (i) rfl (by omega) (by decide) dX4_openNow_32 ?_
  refine lv_isub hx hb dX4_openNow_33 ?_
  exact W.iret (v := ((((M 4 (i)) - (M 9 (i))) - (M 10 (i))) - (M 12 (i))) - (M 14 (i))) hx hb hr (fun t ht hW => ⟨⟨((((M 4 (i)) - (M 9 (i))) - (M 10 (i))) - (M 12 (i))) - (M 14 (i)), (), rfl, rfl, by rw [ht]; exact hP, va_K.moved hW.alike hK, hD⟩, hS.F ht⟩) hS.2.2 dX4_openNow_34
set_option maxHeartbeats 4000000 in
set_option maxRecDepth 100000 in
theorem c_X4_discount (l : Launch) (D : va_G) (cI cZ : ClassId) (a : Nat → Nat) (sz : Nat) (M : Nat → Nat → Int32) (i : Nat) (hi : i < 40) : Met l yX4_discount wsX4_discount ({ frames := 1, cells := 0, slots := 0, locals := 21 } : Room) (va_Pc [.ref (a 0), .int (nI (i))] (PreW D cI cZ (wM a cI cZ M) sz)) (va_Qi (fun (r : Int32) (u : Unit) => r = mdis M i) (fun (u : Unit) => PostW D cI cZ (va_A (wM a cI cZ M) sz) (wM a cI cZ M)) (va_A (wM a cI cZ M) sz)) 0 0 (va_A (wM a cI cZ M) sz) := by
  refine Met.ofW (cc := cX4_discount) (maxL := 3) (ret := (some .int)) (by decide) rfl ?_
  intro p e s m args below meth c s₁ BB hml hv
  obtain ⟨rfl, hsz, hP, hK, hD0⟩ := hv
  have hx := BB.exec
  have hb := BB.bytes
  have hr := BB.returns
  have hts := atoms_spec (ws := wsX4_discount) BB.pre
  have hown : s.vm.findClass RX4 = some m.cls := findClass_of_methodNamed BB.named
  have hlocks := BB.notSynchronized
  clear BB
  subst hsz
  have hD := hD0.self (sz := s.heap.size)
  clear hD0
  generalize hAe : va_A (wM a cI cZ M) s.heap.size = A at hD ⊢
  have hA : ∀ q : Nat, s.heap.size ≤ q → A q := fun q h => by rw [← hAe]; exact Or.inr h
  clear hAe
  have hS : va_S A s.heap s.heap [] := va_S.rf
  have hl := lv_entry ([.ref (a 0), .int (nI (i))]) (n := 3) (Nat.le_of_ble_eq_true rfl)
  rw [lg_entry_eq]
  generalize (lg_sl ([.ref (a 0), .int (nI (i))]) ++ List.replicate (3 - (lg_sl ([.ref (a 0), .int (nI (i))])).length) Slot.unset).toArray = ls at hl ⊢
  have hl : lv_has ls 3 [(0, .ref (a 0)), (1, .int (nI (i)))] := hl
  generalize hHe : s.heap = H at hP
  have hS : va_S A s.heap H [] := by rw [← hHe]; exact va_S.rf
  clear hHe
  generalize hLe : ([] : List Loc) = locs at hS ⊢
  clear hLe
  refine lv_aload_n hx hb dX4_discount_0 rfl (lv_at hl 0 rfl) ?_
  refine lv_iload_n hx hb dX4_discount_1 rfl (lv_at hl 1 rfl) ?_
  refine zcVi (ci := 4) (q0 := 0) (wf := (fun (u : Unit) => (wM a cI cZ M))) (List.range 21) ⟨hx, hb, hml, hown, hts⟩ (zwAll 21 (by decide) rfl hP hD hS hA) hK (c_X4_openNow l D cI cZ a H.size (M) (i) (by first | assumption | omega)) (cwV 1 hts gX4_discount_X4_openNow rfl rfl rfl (by decide +kernel) ⟨Nat.le_of_ble_eq_true rfl, Nat.le_of_ble_eq_true rfl⟩) rfl rfl (by decide) (fun _ => rfl) rfl hl.1 rfl (Nat.le_of_ble_eq_true rfl) dX4_discount_2 ⟨Nat.le_of_ble_eq_true rfl, Nat.le_of_ble_eq_true rfl⟩ (fun r2 u H locs hw hP hD hS => ?_)
  subst hw
  refine lv_aload_n hx hb dX4_discount_5 rfl (lv_at hl 0 rfl) ?_
  refine va_get (D := D) (ci := 4) (v := .ref (a 2)) (C := RX4) (T := TX4) (N := 24) hx hb hts (fun w h => List.mem_cons_of_mem _ (List.mem_append_right _ h)) hown hK hP 0 rfl rfl 4 (by decide) (hts (.fieldLink RX4 13 "CashAllocatorModel" "amounts" "[I") (by decide +kernel)) (fun _ h9 => h9) rfl dX4_discount_6 ?_
  refine lv_iload_n hx hb dX4_discount_9 rfl (lv_at hl 1 rfl) ?_
  refine zald hx hb hK hP 2 (n := 40) (f := (M 4)) rfl (i) rfl (by omega) (by decide) dX4_discount_10 ?_
  refine lv_icmp_ne (tgt := 38) hx hb dX4_discount_11 (by decide) (fun c11 => ?_) (fun c11 => ?_)
  · -- 11 taken
    refine lv_iconst (v := 0) hx hb dX4_discount_38 (by decide) ?_
    refine lv_istore_n (lv' := [(2, .int (0)), (0, .ref (a 0)), (1, .int (nI (i)))]) hx hb dX4_discount_39 rfl hl (by decide) rfl (fun ls hl => ?_)
    refine lv_iload_n hx hb dX4_discount_40 rfl (lv_at hl 0 rfl) ?_
    refine lv_if_eq (tgt := 67) hx hb dX4_discount_41 (by decide) (fun c41 => ?_) (fun c41 => ?_)
    · -- 41 taken
      refine lv_iconst (v := 0) hx hb dX4_discount_67 (by decide) ?_
      exact W.iret (v := 0) hx hb hr (fun t ht hW => ⟨⟨0, (), rfl, (by unfold mdis; first | exact (if_pos ⟨c11, c31⟩).symm | exact (if_neg (fun z => c11 z.1)).symm | exact (if_neg (fun z => z.2 c31)).symm), by rw [ht]; exact hP, va_K.moved hW.alike hK, hD⟩, hS.F ht⟩) hS.2.2 dX4_discount_68
    · -- 41 on
      exact absurd c41 (by decide)
  · -- 11 on
    refine lv_aload_n hx hb dX4_discount_14 rfl (lv_at hl 0 rfl) ?_
    refine va_get (D := D) (ci := 4) (v := .int (M 1 (0))) (C := RX4) (T := TX4) (N := 24) hx hb hts (fun w h => List.mem_cons_of_mem _ (List.mem_append_right _ h)) hown hK hP 0 rfl rfl 1 (by decide) (hts (.fieldLink RX4 89 "CashAllocatorModel" "day" "I") (by decide +kernel)) (fun _ h9 => h9) rfl dX4_discount_15 ?_
    refine lv_aload_n hx hb dX4_discount_18 rfl (lv_at hl 0 rfl) ?_
    refine va_get (D := D) (ci := 4) (v := .ref (a 4)) (C := RX4) (T := TX4) (N := 24) hx hb hts (fun w h => List.mem_cons_of_mem _ (List.mem_append_right _ h)) hown hK hP 0 rfl rfl 6 (by decide) (hts (.fieldLink RX4 19 "CashAllocatorModel" "days" "[I") (by decide +kernel)) (fun _ h9 => h9) rfl dX4_discount_19 ?_
    refine lv_iload_n hx hb dX4_discount_22 rfl (lv_at hl 1 rfl) ?_
    refine zald hx hb hK hP 4 (n := 40) (f := (M 6)) rfl (i) rfl (by omega) (by decide) dX4_discount_23 ?_
    refine lv_aload_n hx hb dX4_discount_24 rfl (lv_at hl 0 rfl) ?_
    refine va_get (D := D) (ci := 4) (v := .ref (a 6)) (C := RX4) (T := TX4) (N := 24) hx hb hts (fun w h => List.mem_cons_of_mem _ (List.mem_append_right _ h)) hown hK hP 0 rfl rfl 8 (by decide) (hts (.fieldLink RX4 25 "CashAllocatorModel" "spans" "[I") (by decide +kernel)) (fun _ h9 => h9) rfl dX4_discount_25 ?_
    refine lv_iload_n hx hb dX4_discount_28 rfl (lv_at hl 1 rfl) ?_
    refine zald hx hb hK hP 6 (n := 40) (f := (M 8)) rfl (i) rfl (by omega) (by decide) dX4_discount_29 ?_
    refine lv_iadd hx hb dX4_discount_30 ?_
    refine lv_icmp_gt (tgt := 38) hx hb dX4_discount_31 (by decide) (fun c31 => ?_) (fun c31 => ?_)
    · -- 31 taken
      refine lv_iconst (v := 0) hx hb dX4_discount_38 (by decide) ?_
      refine lv_istore_n (lv' := [(2, .int (0)), (0, .ref (a 0)), (1, .int (nI (i)))]) hx hb dX4_discount_39 rfl hl (by decide) rfl (fun ls hl => ?_)
      refine lv_iload_n hx hb dX4_discount_40 rfl (lv_at hl 0 rfl) ?_
      refine lv_if_eq (tgt := 67) hx hb dX4_discount_41 (by decide) (fun c41 => ?_) (fun c41 => ?_)
      · -- 41 taken
        refine lv_iconst (v := 0) hx hb dX4_discount_67 (by decide) ?_
        exact W.iret (v := 0) hx hb hr (fun t ht hW => ⟨⟨0, (), rfl, (by unfold mdis; first | exact (if_pos ⟨c11, c31⟩).symm | exact (if_neg (fun z => c11 z.1)).symm | exact (if_neg (fun z => z.2 c31)).symm), by rw [ht]; exact hP, va_K.moved hW.alike hK, hD⟩, hS.F ht⟩) hS.2.2 dX4_discount_68
      · -- 41 on
        exact absurd c41 (by decide)
    · -- 31 on
      refine lv_iconst (v := 1) hx hb dX4_discount_34 (by decide) ?_
      refine lv_goto (tgt := 39) hx hb dX4_discount_35 (by decide) ?_
      refine lv_istore_n (lv' := [(2, .int (1)), (0, .ref (a 0)), (1, .int (nI (i)))]) hx hb dX4_discount_39 rfl hl (by decide) rfl (fun ls hl => ?_)
      refine lv_iload_n hx hb dX4_discount_40 rfl (lv_at hl 0 rfl) ?_
      refine lv_if_eq (tgt := 67) hx hb dX4_discount_41 (by decide) (fun c41 => ?_) (fun c41 => ?_)
      · -- 41 taken
        exact absurd c41 (by decide)
      · -- 41 on
        refine lv_aload_n hx hb dX4_discount_44 rfl (lv_at hl 1 rfl) ?_
        refine va_get (D := D) (ci := 4) (v := .ref (a 2)) (C := RX4) (T := TX4) (N := 24) hx hb hts (fun w h => List.mem_cons_of_mem _ (List.mem_append_right _ h)) hown hK hP 0 rfl rfl 4 (by decide) (hts (.fieldLink RX4 13 "CashAllocatorModel" "amounts" "[I") (by decide +kernel)) (fun _ h9 => h9) rfl dX4_discount_45 ?_
        refine lv_iload_n hx hb dX4_discount_48 rfl (lv_at hl 2 rfl) ?_
        refine zald hx hb hK hP 2 (n := 40) (f := (M 4)) rfl (i) rfl (by omega) (by decide) dX4_discount_49 ?_
        refine lv_i2l (v := (M 4 (i)).toInt64) hx hb dX4_discount_50 rfl ?_
        refine lv_aload_n hx hb dX4_discount_51 rfl (lv_at hl 1 rfl) ?_
        refine va_get (D := D) (ci := 4) (v := .ref (a 5)) (C := RX4) (T := TX4) (N := 24) hx hb hts (fun w h => List.mem_cons_of_mem _ (List.mem_append_right _ h)) hown hK hP 0 rfl rfl 7 (by decide) (hts (.fieldLink RX4 22 "CashAllocatorModel" "rates" "[I") (by decide +kernel)) (fun _ h9 => h9) rfl dX4_discount_52 ?_
        refine lv_iload_n hx hb dX4_discount_55 rfl (lv_at hl 2 rfl) ?_
        refine zald hx hb hK hP 5 (n := 40) (f := (M 7)) rfl (i) rfl (by omega) (by decide) dX4_discount_56 ?_
        refine lv_i2l (v := (M 7 (i)).toInt64) hx hb dX4_discount_57 rfl ?_
        refine lv_lmul hx hb dX4_discount_58 ?_
        refine lv_ldc2 (v := 10000) hx hb hown (hts (.constantLong RX4 92 (10000)) (by decide +kernel)) dX4_discount_59 ?_
        refine lv_ldiv hx hb dX4_discount_62 (by decide) ?_
        refine lv_l2i (v := ((((M 4 (i)).toInt64) * ((M 7 (i)).toInt64)) / (10000)).toInt32) hx hb dX4_discount_63 rfl ?_
        refine lv_goto (tgt := 68) hx hb dX4_discount_64 (by decide) ?_
        exact W.iret (v := ((((M 4 (i)).toInt64) * ((M 7 (i)).toInt64)) / (10000)).toInt32) hx hb hr (fun t ht hW => ⟨⟨((((M 4 (i)).toInt64) * ((M 7 (i)).toInt64)) / (10000)).toInt32, (), rfl, (by unfold mdis; first | exact (if_pos ⟨c11, c31⟩).symm | exact (if_neg (fun z => c11 z.1)).symm | exact (if_neg (fun z => z.2 c31)).symm), by rw [ht]; exact hP, va_K.moved hW.alike hK, hD⟩, hS.F ht⟩) hS.2.2 dX4_discount_68
set_option maxHeartbeats 4000000 in
set_option maxRecDepth 100000 in
theorem c_X4_dueNow (l : Launch) (D : va_G) (cI cZ : ClassId) (a : Nat → Nat) (sz : Nat) (M : Nat → Nat → Int32) (i : Nat) (hi : i < 40) : Met l yX4_dueNow wsX4_dueNow ({ frames := 2, cells := 0, slots := 0, locals := 43 } : Room) (va_Pc [.ref (a 0), .int (nI (i))] (PreW D cI cZ (wM a cI cZ M) sz)) (va_Qi (fun (r : Int32) (u : Unit) => r = mdue M i) (fun (u : Unit) => PostW D cI cZ (va_A (wM a cI cZ M) sz) (wM a cI cZ M)) (va_A (wM a cI cZ M) sz)) 0 0 (va_A (wM a cI cZ M) sz) := by
  refine Met.ofW (cc := cX4_dueNow) (maxL := 2) (ret := (some .int)) (by decide) rfl ?_
  intro p e s m args below meth c s₁ BB hml hv
  obtain ⟨rfl, hsz, hP, hK, hD0⟩ := hv
  have hx := BB.exec
  have hb := BB.bytes
  have hr := BB.returns
  have hts := atoms_spec (ws := wsX4_dueNow) BB.pre
  have hown : s.vm.findClass RX4 = some m.cls := findClass_of_methodNamed BB.named
  have hlocks := BB.notSynchronized
  clear BB
  subst hsz
  have hD := hD0.self (sz := s.heap.size)
  clear hD0
  generalize hAe : va_A (wM a cI cZ M) s.heap.size = A at hD ⊢
  have hA : ∀ q : Nat, s.heap.size ≤ q → A q := fun q h => by rw [← hAe]; exact Or.inr h
  clear hAe
  have hS : va_S A s.heap s.heap [] := va_S.rf
  have hl := lv_entry ([.ref (a 0), .int (nI (i))]) (n := 2) (Nat.le_of_ble_eq_true rfl)
  rw [lg_entry_eq]
  generalize (lg_sl ([.ref (a 0), .int (nI (i))]) ++ List.replicate (2 - (lg_sl ([.ref (a 0), .int (nI (i))])).length) Slot.unset).toArray = ls at hl ⊢
  have hl : lv_has ls 2 [(0, .ref (a 0)), (1, .int (nI (i)))] := hl
  generalize hHe : s.heap = H at hP
  have hS : va_S A s.heap H [] := by rw [← hHe]; exact va_S.rf
  clear hHe
  generalize hLe : ([] : List Loc) = locs at hS ⊢
  clear hLe
  refine lv_aload_n hx hb dX4_dueNow_0 rfl (lv_at hl 0 rfl) ?_
  refine lv_iload_n hx hb dX4_dueNow_1 rfl (lv_at hl 1 rfl) ?_
  refine zcVi (ci := 4) (q0 := 0) (wf := (fun (u : Unit) => (wM a cI cZ M))) (List.range 21) ⟨hx, hb, hml, hown, hts⟩ (zwAll 21 (by decide) rfl hP hD hS hA) hK (c_X4_openNow l D cI cZ a H.size (M) (i) (by first | assumption | omega)) (cwV 1 hts gX4_dueNow_X4_openNow rfl rfl rfl (by decide +kernel) ⟨Nat.le_of_ble_eq_true rfl, Nat.le_of_ble_eq_true rfl⟩) rfl rfl (by decide) (fun _ => rfl) rfl hl.1 rfl (Nat.le_of_ble_eq_true rfl) dX4_dueNow_2 ⟨Nat.le_of_ble_eq_true rfl, Nat.le_of_ble_eq_true rfl⟩ (fun r2 u H locs hw hP hD hS => ?_)
  subst hw
  refine lv_aload_n hx hb dX4_dueNow_5 rfl (lv_at hl 0 rfl) ?_
  refine lv_iload_n hx hb dX4_dueNow_6 rfl (lv_at hl 1 rfl) ?_
  refine zcVi (ci := 4) (q0 := 0) (wf := (fun (u : Unit) => (wM a cI cZ M))) (List.range 21) ⟨hx, hb, hml, hown, hts⟩ (zwAll 21 (by decide) rfl hP hD hS hA) hK (c_X4_discount l D cI cZ a H.size (M) (i) (by first | assumption | omega)) (cwV 1 hts gX4_dueNow_X4_discount rfl rfl rfl (by decide +kernel) ⟨Nat.le_of_ble_eq_true rfl, Nat.le_of_ble_eq_true rfl⟩) rfl rfl (by decide) (fun _ => rfl) rfl hl.1 rfl (Nat.le_of_ble_eq_true rfl) dX4_dueNow_7 ⟨Nat.le_of_ble_eq_true rfl, Nat.le_of_ble_eq_true rfl⟩ (fun r7 u H locs hw hP hD hS => ?_)
  subst hw
  refine lv_isub hx hb dX4_dueNow_10 ?_
  exact W.iret (v := (mopn (M) (i)) - (mdis (M) (i))) hx hb hr (fun t ht hW => ⟨⟨(mopn (M) (i)) - (mdis (M) (i)), (), rfl, rfl, by rw [ht]; exact hP, va_K.moved hW.alike hK, hD⟩, hS.F ht⟩) hS.2.2 dX4_dueNow_11
set_option maxHeartbeats 4000000 in
set_option maxRecDepth 100000 in
theorem c_X4_pay (l : Launch) (D : va_G) (cI cZ : ClassId) (a : Nat → Nat) (sz : Nat) (M : Nat → Nat → Int32) (rc : Nat) (b : Nat) (hrc : rc < 30) (hbl : b < 40) : Met l yX4_pay wsX4_pay ({ frames := 3, cells := 0, slots := 0, locals := 64 } : Room) (va_Pc [.ref (a 0), .int (nI (rc)), .int (nI (b))] (PreW D cI cZ (wM a cI cZ M) sz)) (va_Qi (fun (r : Int32) (u : Nat → Nat → Int32) => r = b2 (¬ M 18 rc < mdue M b) ∧ u = mpay M rc b) (fun (u : Nat → Nat → Int32) => PostW D cI cZ (va_A (wM a cI cZ M) sz) (wM a cI cZ u)) (va_A (wM a cI cZ M) sz)) 0 0 (va_A (wM a cI cZ M) sz) := by
  refine Met.ofW (cc := cX4_pay) (maxL := 7) (ret := (some .boolean)) (by decide) rfl ?_
  intro p e s m args below meth c s₁ BB hml hv
  obtain ⟨rfl, hsz, hP, hK, hD0⟩ := hv
  have hx := BB.exec
  have hb := BB.bytes
  have hr := BB.returns
  have hts := atoms_spec (ws := wsX4_pay) BB.pre
  have hown : s.vm.findClass RX4 = some m.cls := findClass_of_methodNamed BB.named
  have hlocks := BB.notSynchronized
  clear BB
  subst hsz
  have hD := hD0.self (sz := s.heap.size)
  clear hD0
  generalize hAe : va_A (wM a cI cZ M) s.heap.size = A at hD ⊢
  have hA : ∀ q : Nat, s.heap.size ≤ q → A q := fun q h => by rw [← hAe]; exact Or.inr h
  clear hAe
  have hS : va_S A s.heap s.heap [] := va_S.rf
  have hl := lv_entry ([.ref (a 0), .int (nI (rc)), .int (nI (b))]) (n := 7) (Nat.le_of_ble_eq_true rfl)
  rw [lg_entry_eq]
  generalize (lg_sl ([.ref (a 0), .int (nI (rc)), .int (nI (b))]) ++ List.replicate (7 - (lg_sl ([.ref (a 0), .int (nI (rc)), .int (nI (b))])).length) Slot.unset).toArray = ls at hl ⊢
  have hl : lv_has ls 7 [(0, .ref (a 0)), (1, .int (nI (rc))), (2, .int (nI (b)))] := hl
  generalize hHe : s.heap = H at hP
  have hS : va_S A s.heap H [] := by rw [← hHe]; exact va_S.rf
  clear hHe
  generalize hLe : ([] : List Loc) = locs at hS ⊢
  clear hLe
  refine lv_aload_n hx hb dX4_pay_0 rfl (lv_at hl 0 rfl) ?_
  refine lv_iload_n hx hb dX4_pay_1 rfl (lv_at hl 2 rfl) ?_
  refine zcVi (ci := 4) (q0 := 0) (wf := (fun (u : Unit) => (wM a cI cZ M))) (List.range 21) ⟨hx, hb, hml, hown, hts⟩ (zwAll 21 (by decide) rfl hP hD hS hA) hK (c_X4_dueNow l D cI cZ a H.size (M) (b) (by first | assumption | omega)) (cwV 1 hts gX4_pay_X4_dueNow rfl rfl rfl (by decide +kernel) ⟨Nat.le_of_ble_eq_true rfl, Nat.le_of_ble_eq_true rfl⟩) rfl rfl (by decide) (fun _ => rfl) rfl hl.1 rfl (Nat.le_of_ble_eq_true rfl) dX4_pay_2 ⟨Nat.le_of_ble_eq_true rfl, Nat.le_of_ble_eq_true rfl⟩ (fun r2 u H locs hw hP hD hS => ?_)
  subst hw
  refine lv_istore_n (lv' := [(3, .int (mdue (M) (b))), (0, .ref (a 0)), (1, .int (nI (rc))), (2, .int (nI (b)))]) hx hb dX4_pay_5 rfl hl (by decide) rfl (fun ls hl => ?_)
  refine lv_aload_n hx hb dX4_pay_6 rfl (lv_at hl 1 rfl) ?_
  refine va_get (D := D) (ci := 4) (v := .ref (a 15)) (C := RX4) (T := TX4) (N := 24) hx hb hts (fun w h => List.mem_cons_of_mem _ (List.mem_append_right _ h)) hown hK hP 0 rfl rfl 18 (by decide) (hts (.fieldLink RX4 52 "CashAllocatorModel" "left" "[I") (by decide +kernel)) (fun _ h9 => h9) rfl dX4_pay_7 ?_
  refine lv_iload_n hx hb dX4_pay_10 rfl (lv_at hl 2 rfl) ?_
  refine zald hx hb hK hP 15 (n := 30) (f := (M 18)) rfl (rc) rfl (by omega) (by decide) dX4_pay_11 ?_
  refine lv_iload_n hx hb dX4_pay_12 rfl (lv_at hl 0 rfl) ?_
  refine lv_icmp_lt (tgt := 20) hx hb dX4_pay_13 (by decide) (fun c13 => ?_) (fun c13 => ?_)
  · -- 13 taken
    refine lv_iconst (v := 0) hx hb dX4_pay_20 (by decide) ?_
    refine lv_istore (lv' := [(4, .int (0)), (3, .int (mdue (M) (b))), (0, .ref (a 0)), (1, .int (nI (rc))), (2, .int (nI (b)))]) hx hb dX4_pay_21 hl (by decide) rfl (fun ls hl => ?_)
    refine lv_iload hx hb dX4_pay_23 (lv_at hl 0 rfl) ?_
    refine lv_if_eq (tgt := 32) hx hb dX4_pay_25 (by decide) (fun c25 => ?_) (fun c25 => ?_)
    · -- 25 taken
      refine lv_aload_n hx hb dX4_pay_32 rfl (lv_at hl 2 rfl) ?_
      refine va_get (D := D) (ci := 4) (v := .ref (a 15)) (C := RX4) (T := TX4) (N := 24) hx hb hts (fun w h => List.mem_cons_of_mem _ (List.mem_append_right _ h)) hown hK hP 0 rfl rfl 18 (by decide) (hts (.fieldLink RX4 52 "CashAllocatorModel" "left" "[I") (by decide +kernel)) (fun _ h9 => h9) rfl dX4_pay_33 ?_
      refine lv_iload_n hx hb dX4_pay_36 rfl (lv_at hl 3 rfl) ?_
      refine zald hx hb hK hP 15 (n := 30) (f := (M 18)) rfl (rc) rfl (by omega) (by decide) dX4_pay_37 ?_
      refine lv_istore (lv' := [(5, .int (M 18 (rc))), (4, .int (0)), (3, .int (mdue (M) (b))), (0, .ref (a 0)), (1, .int (nI (rc))), (2, .int (nI (b)))]) hx hb dX4_pay_38 hl (by decide) rfl (fun ls hl => ?_)
      refine lv_iload hx hb dX4_pay_40 (lv_at hl 1 rfl) ?_
      refine lv_if_eq (tgt := 75) hx hb dX4_pay_42 (by decide) (fun c42 => ?_) (fun c42 => ?_)
      · -- 42 taken
        refine lv_aload_n hx hb dX4_pay_75 rfl (lv_at hl 3 rfl) ?_
        refine va_get (D := D) (ci := 4) (v := .ref (a 7)) (C := RX4) (T := TX4) (N := 24) hx hb hts (fun w h => List.mem_cons_of_mem _ (List.mem_append_right _ h)) hown hK hP 0 rfl rfl 9 (by decide) (hts (.fieldLink RX4 28 "CashAllocatorModel" "paidOf" "[I") (by decide +kernel)) (fun _ h9 => h9) rfl dX4_pay_76 ?_
        refine lv_iload_n hx hb dX4_pay_79 rfl (lv_at hl 5 rfl) ?_
        refine lv_dup2_11 hx hb dX4_pay_80 rfl rfl ?_
        refine zald hx hb hK hP 7 (n := 40) (f := (M 9)) rfl (b) rfl (by omega) (by decide) dX4_pay_81 ?_
        refine lv_iload hx hb dX4_pay_82 (lv_at hl 0 rfl) ?_
        refine lv_iadd hx hb dX4_pay_84 ?_
        refine zast hx hb hK hP hD hS 7 (n := 40) (f := (M 9)) rfl (b) rfl (by omega) (by decide) (wM a cI cZ (pt M 9 (b) ((M 9 (b)) + (M 18 (rc))))) rfl dX4_pay_85 (fun H locs hP hD hS => ?_)
        refine lv_aload_n hx hb dX4_pay_86 rfl (lv_at hl 3 rfl) ?_
        refine va_get (D := D) (ci := 4) (v := .ref (a 15)) (C := RX4) (T := TX4) (N := 24) hx hb hts (fun w h => List.mem_cons_of_mem _ (List.mem_append_right _ h)) hown hK hP 0 rfl rfl 18 (by decide) (hts (.fieldLink RX4 52 "CashAllocatorModel" "left" "[I") (by decide +kernel)) (fun _ h9 => h9) rfl dX4_pay_87 ?_
        refine lv_iload_n hx hb dX4_pay_90 rfl (lv_at hl 4 rfl) ?_
        refine lv_dup2_11 hx hb dX4_pay_91 rfl rfl ?_
        refine zald hx hb hK hP 15 (n := 30) (f := (M 18)) rfl (rc) rfl (by omega) (by decide) dX4_pay_92 ?_
        refine lv_iload hx hb dX4_pay_93 (lv_at hl 0 rfl) ?_
        refine lv_isub hx hb dX4_pay_95 ?_
        refine zast hx hb hK hP hD hS 15 (n := 30) (f := (M 18)) rfl (rc) rfl (by omega) (by decide) (wM a cI cZ (pt (pt M 9 (b) ((M 9 (b)) + (M 18 (rc)))) 18 (rc) ((M 18 (rc)) - (M 18 (rc))))) rfl dX4_pay_96 (fun H locs hP hD hS => ?_)
        refine lv_aload_n hx hb dX4_pay_97 rfl (lv_at hl 3 rfl) ?_
        refine va_get (D := D) (ci := 4) (v := .ref (a 18)) (C := RX4) (T := TX4) (N := 24) hx hb hts (fun w h => List.mem_cons_of_mem _ (List.mem_append_right _ h)) hown hK hP 0 rfl rfl 21 (by decide) (hts (.fieldLink RX4 62 "CashAllocatorModel" "paidBy" "[I") (by decide +kernel)) (fun _ h9 => h9) rfl dX4_pay_98 ?_
        refine lv_bipush (v := nI (40)) hx hb dX4_pay_101 (by decide) ?_
        refine lv_iload_n hx hb dX4_pay_103 rfl (lv_at hl 4 rfl) ?_
        refine lv_imul hx hb dX4_pay_104 ?_
        rw [pk_mul]
        refine lv_iload_n hx hb dX4_pay_105 rfl (lv_at hl 5 rfl) ?_
        refine lv_iadd hx hb dX4_pay_106 ?_
        rw [nI_add]
        refine lv_dup2_11 hx hb dX4_pay_107 rfl rfl ?_
        refine zald hx hb hK hP 18 (n := 1200) (f := (M 21)) rfl (40 * rc + b) rfl (by omega) (by decide) dX4_pay_108 ?_
        refine lv_iload hx hb dX4_pay_109 (lv_at hl 0 rfl) ?_
        refine lv_iadd hx hb dX4_pay_111 ?_
        refine zast hx hb hK hP hD hS 18 (n := 1200) (f := (M 21)) rfl (40 * rc + b) rfl (by omega) (by decide) (wM a cI cZ (pt (pt (pt M 9 (b) ((M 9 (b)) + (M 18 (rc)))) 18 (rc) ((M 18 (rc)) - (M 18 (rc)))) 21 (40 * rc + b) ((M 21 (40 * rc + b)) + (M 18 (rc))))) rfl dX4_pay_112 (fun H locs hP hD hS => ?_)
        refine lv_aload_n hx hb dX4_pay_113 rfl (lv_at hl 3 rfl) ?_
        refine va_get (D := D) (ci := 4) (v := .ref (a 19)) (C := RX4) (T := TX4) (N := 24) hx hb hts (fun w h => List.mem_cons_of_mem _ (List.mem_append_right _ h)) hown hK hP 0 rfl rfl 22 (by decide) (hts (.fieldLink RX4 65 "CashAllocatorModel" "hasPaid" "[Z") (by decide +kernel)) (fun _ h9 => h9) rfl dX4_pay_114 ?_
        refine lv_bipush (v := nI (40)) hx hb dX4_pay_117 (by decide) ?_
        refine lv_iload_n hx hb dX4_pay_119 rfl (lv_at hl 4 rfl) ?_
        refine lv_imul hx hb dX4_pay_120 ?_
        rw [pk_mul]
        refine lv_iload_n hx hb dX4_pay_121 rfl (lv_at hl 5 rfl) ?_
        refine lv_iadd hx hb dX4_pay_122 ?_
        rw [nI_add]
        refine lv_iconst (v := 1) hx hb dX4_pay_123 (by decide) ?_
        refine zbst hx hb hK hP hD hS 19 (n := 1200) (f := (M 22)) rfl (40 * rc + b) rfl (by omega) (by decide) (by decide) (wM a cI cZ (pt (pt (pt (pt M 9 (b) ((M 9 (b)) + (M 18 (rc)))) 18 (rc) ((M 18 (rc)) - (M 18 (rc)))) 21 (40 * rc + b) ((M 21 (40 * rc + b)) + (M 18 (rc)))) 22 (40 * rc + b) (1))) rfl dX4_pay_124 (fun H locs hP hD hS => ?_)
        refine lv_iload hx hb dX4_pay_125 (lv_at hl 1 rfl) ?_
        exact W.zret (ty := .boolean) (v := 0) hx hb hr (by decide) (fun t ht hW => ⟨⟨0, (pt (pt (pt (pt M 9 (b) ((M 9 (b)) + (M 18 (rc)))) 18 (rc) ((M 18 (rc)) - (M 18 (rc)))) 21 (40 * rc + b) ((M 21 (40 * rc + b)) + (M 18 (rc)))) 22 (40 * rc + b) (1)), rfl, ⟨(by first | exact (if_neg (fun z => z c13)).symm | exact (if_pos c13).symm), (by unfold mpay; first | (rw [if_pos c13]; rfl) | (rw [if_neg c13]; unfold mtk; first | (rw [if_neg (fun z => z c50)]; rfl) | (rw [if_pos c50]; rfl)))⟩, by rw [ht]; exact hP, va_K.moved hW.alike hK, hD⟩, hS.F ht⟩) hS.2.2 dX4_pay_127
      · -- 42 on
        exact absurd c42 (by decide)
    · -- 25 on
      exact absurd c25 (by decide)
  · -- 13 on
    refine lv_iconst (v := 1) hx hb dX4_pay_16 (by decide) ?_
    refine lv_goto (tgt := 21) hx hb dX4_pay_17 (by decide) ?_
    refine lv_istore (lv' := [(4, .int (1)), (3, .int (mdue (M) (b))), (0, .ref (a 0)), (1, .int (nI (rc))), (2, .int (nI (b)))]) hx hb dX4_pay_21 hl (by decide) rfl (fun ls hl => ?_)
    refine lv_iload hx hb dX4_pay_23 (lv_at hl 0 rfl) ?_
    refine lv_if_eq (tgt := 32) hx hb dX4_pay_25 (by decide) (fun c25 => ?_) (fun c25 => ?_)
    · -- 25 taken
      exact absurd c25 (by decide)
    · -- 25 on
      refine lv_iload_n hx hb dX4_pay_28 rfl (lv_at hl 1 rfl) ?_
      refine lv_goto (tgt := 38) hx hb dX4_pay_29 (by decide) ?_
      refine lv_istore (lv' := [(5, .int (mdue (M) (b))), (4, .int (1)), (3, .int (mdue (M) (b))), (0, .ref (a 0)), (1, .int (nI (rc))), (2, .int (nI (b)))]) hx hb dX4_pay_38 hl (by decide) rfl (fun ls hl => ?_)
      refine lv_iload hx hb dX4_pay_40 (lv_at hl 1 rfl) ?_
      refine lv_if_eq (tgt := 75) hx hb dX4_pay_42 (by decide) (fun c42 => ?_) (fun c42 => ?_)
      · -- 42 taken
        exact absurd c42 (by decide)
      · -- 42 on
        refine lv_aload_n hx hb dX4_pay_45 rfl (lv_at hl 3 rfl) ?_
        refine lv_iload_n hx hb dX4_pay_46 rfl (lv_at hl 5 rfl) ?_
        refine zcVi (ci := 4) (q0 := 0) (wf := (fun (u : Unit) => (wM a cI cZ M))) (List.range 21) ⟨hx, hb, hml, hown, hts⟩ (zwAll 21 (by decide) rfl hP hD hS hA) hK (c_X4_discount l D cI cZ a H.size (M) (b) (by first | assumption | omega)) (cwV 1 hts gX4_pay_X4_discount rfl rfl rfl (by decide +kernel) ⟨Nat.le_of_ble_eq_true rfl, Nat.le_of_ble_eq_true rfl⟩) rfl rfl (by decide) (fun _ => rfl) rfl hl.1 rfl (Nat.le_of_ble_eq_true rfl) dX4_pay_47 ⟨Nat.le_of_ble_eq_true rfl, Nat.le_of_ble_eq_true rfl⟩ (fun r47 u H locs hw hP hD hS => ?_)
        subst hw
        refine lv_if_le (tgt := 75) hx hb dX4_pay_50 (by decide) (fun c50 => ?_) (fun c50 => ?_)
        · -- 50 taken
          refine lv_aload_n hx hb dX4_pay_75 rfl (lv_at hl 3 rfl) ?_
          refine va_get (D := D) (ci := 4) (v := .ref (a 7)) (C := RX4) (T := TX4) (N := 24) hx hb hts (fun w h => List.mem_cons_of_mem _ (List.mem_append_right _ h)) hown hK hP 0 rfl rfl 9 (by decide) (hts (.fieldLink RX4 28 "CashAllocatorModel" "paidOf" "[I") (by decide +kernel)) (fun _ h9 => h9) rfl dX4_pay_76 ?_
          refine lv_iload_n hx hb dX4_pay_79 rfl (lv_at hl 5 rfl) ?_
          refine lv_dup2_11 hx hb dX4_pay_80 rfl rfl ?_
          refine zald hx hb hK hP 7 (n := 40) (f := (M 9)) rfl (b) rfl (by omega) (by decide) dX4_pay_81 ?_
          refine lv_iload hx hb dX4_pay_82 (lv_at hl 0 rfl) ?_
          refine lv_iadd hx hb dX4_pay_84 ?_
          refine zast hx hb hK hP hD hS 7 (n := 40) (f := (M 9)) rfl (b) rfl (by omega) (by decide) (wM a cI cZ (pt M 9 (b) ((M 9 (b)) + (mdue (M) (b))))) rfl dX4_pay_85 (fun H locs hP hD hS => ?_)
          refine lv_aload_n hx hb dX4_pay_86 rfl (lv_at hl 3 rfl) ?_
          refine va_get (D := D) (ci := 4) (v := .ref (a 15)) (C := RX4) (T := TX4) (N := 24) hx hb hts (fun w h => List.mem_cons_of_mem _ (List.mem_append_right _ h)) hown hK hP 0 rfl rfl 18 (by decide) (hts (.fieldLink RX4 52 "CashAllocatorModel" "left" "[I") (by decide +kernel)) (fun _ h9 => h9) rfl dX4_pay_87 ?_
          refine lv_iload_n hx hb dX4_pay_90 rfl (lv_at hl 4 rfl) ?_
          refine lv_dup2_11 hx hb dX4_pay_91 rfl rfl ?_
          refine zald hx hb hK hP 15 (n := 30) (f := (M 18)) rfl (rc) rfl (by omega) (by decide) dX4_pay_92 ?_
          refine lv_iload hx hb dX4_pay_93 (lv_at hl 0 rfl) ?_
          refine lv_isub hx hb dX4_pay_95 ?_
          refine zast hx hb hK hP hD hS 15 (n := 30) (f := (M 18)) rfl (rc) rfl (by omega) (by decide) (wM a cI cZ (pt (pt M 9 (b) ((M 9 (b)) + (mdue (M) (b)))) 18 (rc) ((M 18 (rc)) - (mdue (M) (b))))) rfl dX4_pay_96 (fun H locs hP hD hS => ?_)
          refine lv_aload_n hx hb dX4_pay_97 rfl (lv_at hl 3 rfl) ?_
          refine va_get (D := D) (ci := 4) (v := .ref (a 18)) (C := RX4) (T := TX4) (N := 24) hx hb hts (fun w h => List.mem_cons_of_mem _ (List.mem_append_right _ h)) hown hK hP 0 rfl rfl 21 (by decide) (hts (.fieldLink RX4 62 "CashAllocatorModel" "paidBy" "[I") (by decide +kernel)) (fun _ h9 => h9) rfl dX4_pay_98 ?_
          refine lv_bipush (v := nI (40)) hx hb dX4_pay_101 (by decide) ?_
          refine lv_iload_n hx hb dX4_pay_103 rfl (lv_at hl 4 rfl) ?_
          refine lv_imul hx hb dX4_pay_104 ?_
          rw [pk_mul]
          refine lv_iload_n hx hb dX4_pay_105 rfl (lv_at hl 5 rfl) ?_
          refine lv_iadd hx hb dX4_pay_106 ?_
          rw [nI_add]
          refine lv_dup2_11 hx hb dX4_pay_107 rfl rfl ?_
          refine zald hx hb hK hP 18 (n := 1200) (f := (M 21)) rfl (40 * rc + b) rfl (by omega) (by decide) dX4_pay_108 ?_
          refine lv_iload hx hb dX4_pay_109 (lv_at hl 0 rfl) ?_
          refine lv_iadd hx hb dX4_pay_111 ?_
          refine zast hx hb hK hP hD hS 18 (n := 1200) (f := (M 21)) rfl (40 * rc + b) rfl (by omega) (by decide) (wM a cI cZ (pt (pt (pt M 9 (b) ((M 9 (b)) + (mdue (M) (b)))) 18 (rc) ((M 18 (rc)) - (mdue (M) (b)))) 21 (40 * rc + b) ((M 21 (40 * rc + b)) + (mdue (M) (b))))) rfl dX4_pay_112 (fun H locs hP hD hS => ?_)
          refine lv_aload_n hx hb dX4_pay_113 rfl (lv_at hl 3 rfl) ?_
          refine va_get (D := D) (ci := 4) (v := .ref (a 19)) (C := RX4) (T := TX4) (N := 24) hx hb hts (fun w h => List.mem_cons_of_mem _ (List.mem_append_right _ h)) hown hK hP 0 rfl rfl 22 (by decide) (hts (.fieldLink RX4 65 "CashAllocatorModel" "hasPaid" "[Z") (by decide +kernel)) (fun _ h9 => h9) rfl dX4_pay_114 ?_
          refine lv_bipush (v := nI (40)) hx hb dX4_pay_117 (by decide) ?_
          refine lv_iload_n hx hb dX4_pay_119 rfl (lv_at hl 4 rfl) ?_
          refine lv_imul hx hb dX4_pay_120 ?_
          rw [pk_mul]
          refine lv_iload_n hx hb dX4_pay_121 rfl (lv_at hl 5 rfl) ?_
          refine lv_iadd hx hb dX4_pay_122 ?_
          rw [nI_add]
          refine lv_iconst (v := 1) hx hb dX4_pay_123 (by decide) ?_
          refine zbst hx hb hK hP hD hS 19 (n := 1200) (f := (M 22)) rfl (40 * rc + b) rfl (by omega) (by decide) (by decide) (wM a cI cZ (pt (pt (pt (pt M 9 (b) ((M 9 (b)) + (mdue (M) (b)))) 18 (rc) ((M 18 (rc)) - (mdue (M) (b)))) 21 (40 * rc + b) ((M 21 (40 * rc + b)) + (mdue (M) (b)))) 22 (40 * rc + b) (1))) rfl dX4_pay_124 (fun H locs hP hD hS => ?_)
          refine lv_iload hx hb dX4_pay_125 (lv_at hl 1 rfl) ?_
          exact W.zret (ty := .boolean) (v := 1) hx hb hr (by decide) (fun t ht hW => ⟨⟨1, (pt (pt (pt (pt M 9 (b) ((M 9 (b)) + (mdue (M) (b)))) 18 (rc) ((M 18 (rc)) - (mdue (M) (b)))) 21 (40 * rc + b) ((M 21 (40 * rc + b)) + (mdue (M) (b)))) 22 (40 * rc + b) (1)), rfl, ⟨(by first | exact (if_neg (fun z => z c13)).symm | exact (if_pos c13).symm), (by unfold mpay; first | (rw [if_pos c13]; rfl) | (rw [if_neg c13]; unfold mtk; first | (rw [if_neg (fun z => z c50)]; rfl) | (rw [if_pos c50]; rfl)))⟩, by rw [ht]; exact hP, va_K.moved hW.alike hK, hD⟩, hS.F ht⟩) hS.2.2 dX4_pay_127
        · -- 50 on
          refine lv_aload_n hx hb dX4_pay_53 rfl (lv_at hl 3 rfl) ?_
          refine lv_iload_n hx hb dX4_pay_54 rfl (lv_at hl 5 rfl) ?_
          refine zcVi (ci := 4) (q0 := 0) (wf := (fun (u : Unit) => (wM a cI cZ M))) (List.range 21) ⟨hx, hb, hml, hown, hts⟩ (zwAll 21 (by decide) rfl hP hD hS hA) hK (c_X4_discount l D cI cZ a H.size (M) (b) (by first | assumption | omega)) (cwV 1 hts gX4_pay_X4_discount rfl rfl rfl (by decide +kernel) ⟨Nat.le_of_ble_eq_true rfl, Nat.le_of_ble_eq_true rfl⟩) rfl rfl (by decide) (fun _ => rfl) rfl hl.1 rfl (Nat.le_of_ble_eq_true rfl) dX4_pay_55 ⟨Nat.le_of_ble_eq_true rfl, Nat.le_of_ble_eq_true rfl⟩ (fun r55 u H locs hw hP hD hS => ?_)
          subst hw
          refine lv_istore (lv' := [(6, .int (mdis (M) (b))), (5, .int (mdue (M) (b))), (4, .int (1)), (3, .int (mdue (M) (b))), (0, .ref (a 0)), (1, .int (nI (rc))), (2, .int (nI (b)))]) hx hb dX4_pay_58 hl (by decide) rfl (fun ls hl => ?_)
          refine lv_aload_n hx hb dX4_pay_60 rfl (lv_at hl 4 rfl) ?_
          refine va_get (D := D) (ci := 4) (v := .ref (a 8)) (C := RX4) (T := TX4) (N := 24) hx hb hts (fun w h => List.mem_cons_of_mem _ (List.mem_append_right _ h)) hown hK hP 0 rfl rfl 10 (by decide) (hts (.fieldLink RX4 31 "CashAllocatorModel" "takenOf" "[I") (by decide +kernel)) (fun _ h9 => h9) rfl dX4_pay_61 ?_
          refine lv_iload_n hx hb dX4_pay_64 rfl (lv_at hl 6 rfl) ?_
          refine lv_iload hx hb dX4_pay_65 (lv_at hl 0 rfl) ?_
          refine zast hx hb hK hP hD hS 8 (n := 40) (f := (M 10)) rfl (b) rfl (by omega) (by decide) (wM a cI cZ (pt M 10 (b) (mdis (M) (b)))) rfl dX4_pay_67 (fun H locs hP hD hS => ?_)
          refine lv_aload_n hx hb dX4_pay_68 rfl (lv_at hl 4 rfl) ?_
          refine va_get (D := D) (ci := 4) (v := .ref (a 9)) (C := RX4) (T := TX4) (N := 24) hx hb hts (fun w h => List.mem_cons_of_mem _ (List.mem_append_right _ h)) hown hK hP 0 rfl rfl 11 (by decide) (hts (.fieldLink RX4 34 "CashAllocatorModel" "takers" "[I") (by decide +kernel)) (fun _ h9 => h9) rfl dX4_pay_69 ?_
          refine lv_iload_n hx hb dX4_pay_72 rfl (lv_at hl 6 rfl) ?_
          refine lv_iload_n hx hb dX4_pay_73 rfl (lv_at hl 5 rfl) ?_
          refine zast hx hb hK hP hD hS 9 (n := 40) (f := (M 11)) rfl (b) rfl (by omega) (by decide) (wM a cI cZ (pt (pt M 10 (b) (mdis (M) (b))) 11 (b) (nI (rc)))) rfl dX4_pay_74 (fun H locs hP hD hS => ?_)
          refine lv_aload_n hx hb dX4_pay_75 rfl (lv_at hl 4 rfl) ?_
          refine va_get (D := D) (ci := 4) (v := .ref (a 7)) (C := RX4) (T := TX4) (N := 24) hx hb hts (fun w h => List.mem_cons_of_mem _ (List.mem_append_right _ h)) hown hK hP 0 rfl rfl 9 (by decide) (hts (.fieldLink RX4 28 "CashAllocatorModel" "paidOf" "[I") (by decide +kernel)) (fun _ h9 => h9) rfl dX4_pay_76 ?_
          refine lv_iload_n hx hb dX4_pay_79 rfl (lv_at hl 6 rfl) ?_
          refine lv_dup2_11 hx hb dX4_pay_80 rfl rfl ?_
          refine zald hx hb hK hP 7 (n := 40) (f := (M 9)) rfl (b) rfl (by omega) (by decide) dX4_pay_81 ?_
          refine lv_iload hx hb dX4_pay_82 (lv_at hl 1 rfl) ?_
          refine lv_iadd hx hb dX4_pay_84 ?_
          refine zast hx hb hK hP hD hS 7 (n := 40) (f := (M 9)) rfl (b) rfl (by omega) (by decide) (wM a cI cZ (pt (pt (pt M 10 (b) (mdis (M) (b))) 11 (b) (nI (rc))) 9 (b) ((M 9 (b)) + (mdue (M) (b))))) rfl dX4_pay_85 (fun H locs hP hD hS => ?_)
          refine lv_aload_n hx hb dX4_pay_86 rfl (lv_at hl 4 rfl) ?_
          refine va_get (D := D) (ci := 4) (v := .ref (a 15)) (C := RX4) (T := TX4) (N := 24) hx hb hts (fun w h => List.mem_cons_of_mem _ (List.mem_append_right _ h)) hown hK hP 0 rfl rfl 18 (by decide) (hts (.fieldLink RX4 52 "CashAllocatorModel" "left" "[I") (by decide +kernel)) (fun _ h9 => h9) rfl dX4_pay_87 ?_
          refine lv_iload_n hx hb dX4_pay_90 rfl (lv_at hl 5 rfl) ?_
          refine lv_dup2_11 hx hb dX4_pay_91 rfl rfl ?_
          refine zald hx hb hK hP 15 (n := 30) (f := (M 18)) rfl (rc) rfl (by omega) (by decide) dX4_pay_92 ?_
          refine lv_iload hx hb dX4_pay_93 (lv_at hl 1 rfl) ?_
          refine lv_isub hx hb dX4_pay_95 ?_
          refine zast hx hb hK hP hD hS 15 (n := 30) (f := (M 18)) rfl (rc) rfl (by omega) (by decide) (wM a cI cZ (pt (pt (pt (pt M 10 (b) (mdis (M) (b))) 11 (b) (nI (rc))) 9 (b) ((M 9 (b)) + (mdue (M) (b)))) 18 (rc) ((M 18 (rc)) - (mdue (M) (b))))) rfl dX4_pay_96 (fun H locs hP hD hS => ?_)
          refine lv_aload_n hx hb dX4_pay_97 rfl (lv_at hl 4 rfl) ?_
          refine va_get (D := D) (ci := 4) (v := .ref (a 18)) (C := RX4) (T := TX4) (N := 24) hx hb hts (fun w h => List.mem_cons_of_mem _ (List.mem_append_right _ h)) hown hK hP 0 rfl rfl 21 (by decide) (hts (.fieldLink RX4 62 "CashAllocatorModel" "paidBy" "[I") (by decide +kernel)) (fun _ h9 => h9) rfl dX4_pay_98 ?_
          refine lv_bipush (v := nI (40)) hx hb dX4_pay_101 (by decide) ?_
          refine lv_iload_n hx hb dX4_pay_103 rfl (lv_at hl 5 rfl) ?_
          refine lv_imul hx hb dX4_pay_104 ?_
          rw [pk_mul]
          refine lv_iload_n hx hb dX4_pay_105 rfl (lv_at hl 6 rfl) ?_
          refine lv_iadd hx hb dX4_pay_106 ?_
          rw [nI_add]
          refine lv_dup2_11 hx hb dX4_pay_107 rfl rfl ?_
          refine zald hx hb hK hP 18 (n := 1200) (f := (M 21)) rfl (40 * rc + b) rfl (by omega) (by decide) dX4_pay_108 ?_
          refine lv_iload hx hb dX4_pay_109 (lv_at hl 1 rfl) ?_
          refine lv_iadd hx hb dX4_pay_111 ?_
          refine zast hx hb hK hP hD hS 18 (n := 1200) (f := (M 21)) rfl (40 * rc + b) rfl (by omega) (by decide) (wM a cI cZ (pt (pt (pt (pt (pt M 10 (b) (mdis (M) (b))) 11 (b) (nI (rc))) 9 (b) ((M 9 (b)) + (mdue (M) (b)))) 18 (rc) ((M 18 (rc)) - (mdue (M) (b)))) 21 (40 * rc + b) ((M 21 (40 * rc + b)) + (mdue (M) (b))))) rfl dX4_pay_112 (fun H locs hP hD hS => ?_)
          refine lv_aload_n hx hb dX4_pay_113 rfl (lv_at hl 4 rfl) ?_
          refine va_get (D := D) (ci := 4) (v := .ref (a 19)) (C := RX4) (T := TX4) (N := 24) hx hb hts (fun w h => List.mem_cons_of_mem _ (List.mem_append_right _ h)) hown hK hP 0 rfl rfl 22 (by decide) (hts (.fieldLink RX4 65 "CashAllocatorModel" "hasPaid" "[Z") (by decide +kernel)) (fun _ h9 => h9) rfl dX4_pay_114 ?_
          refine lv_bipush (v := nI (40)) hx hb dX4_pay_117 (by decide) ?_
          refine lv_iload_n hx hb dX4_pay_119 rfl (lv_at hl 5 rfl) ?_
          refine lv_imul hx hb dX4_pay_120 ?_
          rw [pk_mul]
          refine lv_iload_n hx hb dX4_pay_121 rfl (lv_at hl 6 rfl) ?_
          refine lv_iadd hx hb dX4_pay_122 ?_
          rw [nI_add]
          refine lv_iconst (v := 1) hx hb dX4_pay_123 (by decide) ?_
          refine zbst hx hb hK hP hD hS 19 (n := 1200) (f := (M 22)) rfl (40 * rc + b) rfl (by omega) (by decide) (by decide) (wM a cI cZ (pt (pt (pt (pt (pt (pt M 10 (b) (mdis (M) (b))) 11 (b) (nI (rc))) 9 (b) ((M 9 (b)) + (mdue (M) (b)))) 18 (rc) ((M 18 (rc)) - (mdue (M) (b)))) 21 (40 * rc + b) ((M 21 (40 * rc + b)) + (mdue (M) (b)))) 22 (40 * rc + b) (1))) rfl dX4_pay_124 (fun H locs hP hD hS => ?_)
          refine lv_iload hx hb dX4_pay_125 (lv_at hl 2 rfl) ?_
          exact W.zret (ty := .boolean) (v := 1) hx hb hr (by decide) (fun t ht hW => ⟨⟨1, (pt (pt (pt (pt (pt (pt M 10 (b) (mdis (M) (b))) 11 (b) (nI (rc))) 9 (b) ((M 9 (b)) + (mdue (M) (b)))) 18 (rc) ((M 18 (rc)) - (mdue (M) (b)))) 21 (40 * rc + b) ((M 21 (40 * rc + b)) + (mdue (M) (b)))) 22 (40 * rc + b) (1)), rfl, ⟨(by first | exact (if_neg (fun z => z c13)).symm | exact (if_pos c13).symm), (by unfold mpay; first | (rw [if_pos c13]; rfl) | (rw [if_neg c13]; unfold mtk; first | (rw [if_neg (fun z => z c50)]; rfl) | (rw [if_pos c50]; rfl)))⟩, by rw [ht]; exact hP, va_K.moved hW.alike hK, hD⟩, hS.F ht⟩) hS.2.2 dX4_pay_127
set_option maxHeartbeats 4000000 in
set_option maxRecDepth 100000 in
theorem c_X4_dispute (l : Launch) (D : va_G) (cI cZ : ClassId) (a : Nat → Nat) (sz : Nat) (M : Nat → Nat → Int32) (rc : Nat) (b : Nat) (hrc : rc < 30) (hbl : b < 40) : Met l yX4_dispute wsX4_dispute ({ frames := 1, cells := 0, slots := 0, locals := 21 } : Room) (va_Pc [.ref (a 0), .int (nI (rc)), .int (nI (b))] (PreW D cI cZ (wM a cI cZ M) sz)) (va_Qv (fun (u : Nat → Nat → Int32) => u = mdsp M rc b) (fun (u : Nat → Nat → Int32) => PostW D cI cZ (va_A (wM a cI cZ M) sz) (wM a cI cZ u)) (va_A (wM a cI cZ M) sz)) 0 0 (va_A (wM a cI cZ M) sz) := by
  refine Met.ofW (cc := cX4_dispute) (maxL := 3) (ret := none) (by decide) rfl ?_
  intro p e s m args below meth c s₁ BB hml hv
  obtain ⟨rfl, hsz, hP, hK, hD0⟩ := hv
  have hx := BB.exec
  have hb := BB.bytes
  have hr := BB.returns
  have hts := atoms_spec (ws := wsX4_dispute) BB.pre
  have hown : s.vm.findClass RX4 = some m.cls := findClass_of_methodNamed BB.named
  have hlocks := BB.notSynchronized
  clear BB
  subst hsz
  have hD := hD0.self (sz := s.heap.size)
  clear hD0
  generalize hAe : va_A (wM a cI cZ M) s.heap.size = A at hD ⊢
  have hA : ∀ q : Nat, s.heap.size ≤ q → A q := fun q h => by rw [← hAe]; exact Or.inr h
  clear hAe
  have hS : va_S A s.heap s.heap [] := va_S.rf
  have hl := lv_entry ([.ref (a 0), .int (nI (rc)), .int (nI (b))]) (n := 3) (Nat.le_of_ble_eq_true rfl)
  rw [lg_entry_eq]
  generalize (lg_sl ([.ref (a 0), .int (nI (rc)), .int (nI (b))]) ++ List.replicate (3 - (lg_sl ([.ref (a 0), .int (nI (rc)), .int (nI (b))])).length) Slot.unset).toArray = ls at hl ⊢
  have hl : lv_has ls 3 [(0, .ref (a 0)), (1, .int (nI (rc))), (2, .int (nI (b)))] := hl
  generalize hHe : s.heap = H at hP
  have hS : va_S A s.heap H [] := by rw [← hHe]; exact va_S.rf
  clear hHe
  generalize hLe : ([] : List Loc) = locs at hS ⊢
  clear hLe
  refine lv_aload_n hx hb dX4_dispute_0 rfl (lv_at hl 0 rfl) ?_
  refine va_get (D := D) (ci := 4) (v := .ref (a 10)) (C := RX4) (T := TX4) (N := 24) hx hb hts (fun w h => List.mem_cons_of_mem _ (List.mem_append_right _ h)) hown hK hP 0 rfl rfl 12 (by decide) (hts (.fieldLink RX4 37 "CashAllocatorModel" "disputedOf" "[I") (by decide +kernel)) (fun _ h9 => h9) rfl dX4_dispute_1 ?_
  refine lv_iload_n hx hb dX4_dispute_4 rfl (lv_at hl 2 rfl) ?_
  refine lv_dup2_11 hx hb dX4_dispute_5 rfl rfl ?_
  refine zald hx hb hK hP 10 (n := 40) (f := (M 12)) rfl (b) rfl (by omega) (by decide) dX4_dispute_6 ?_
  refine lv_aload_n hx hb dX4_dispute_7 rfl (lv_at hl 0 rfl) ?_
  refine lv_iload_n hx hb dX4_dispute_8 rfl (lv_at hl 2 rfl) ?_
  refine zcVi (ci := 4) (q0 := 0) (wf := (fun (u : Unit) => (wM a cI cZ M))) (List.range 21) ⟨hx, hb, hml, hown, hts⟩ (zwAll 21 (by decide) rfl hP hD hS hA) hK (c_X4_openNow l D cI cZ a H.size (M) (b) (by first | assumption | omega)) (cwV 1 hts gX4_dispute_X4_openNow rfl rfl rfl (by decide +kernel) ⟨Nat.le_of_ble_eq_true rfl, Nat.le_of_ble_eq_true rfl⟩) rfl rfl (by decide) (fun _ => rfl) rfl hl.1 rfl (Nat.le_of_ble_eq_true rfl) dX4_dispute_9 ⟨Nat.le_of_ble_eq_true rfl, Nat.le_of_ble_eq_true rfl⟩ (fun r9 u H locs hw hP hD hS => ?_)
  subst hw
  refine lv_iadd hx hb dX4_dispute_12 ?_
  refine zast hx hb hK hP hD hS 10 (n := 40) (f := (M 12)) rfl (b) rfl (by omega) (by decide) (wM a cI cZ (pt M 12 (b) ((M 12 (b)) + (mopn (M) (b))))) rfl dX4_dispute_13 (fun H locs hP hD hS => ?_)
  refine lv_aload_n hx hb dX4_dispute_14 rfl (lv_at hl 0 rfl) ?_
  refine va_get (D := D) (ci := 4) (v := .ref (a 11)) (C := RX4) (T := TX4) (N := 24) hx hb hts (fun w h => List.mem_cons_of_mem _ (List.mem_append_right _ h)) hown hK hP 0 rfl rfl 13 (by decide) (hts (.fieldLink RX4 40 "CashAllocatorModel" "raisers" "[I") (by decide +kernel)) (fun _ h9 => h9) rfl dX4_dispute_15 ?_
  refine lv_iload_n hx hb dX4_dispute_18 rfl (lv_at hl 2 rfl) ?_
  refine lv_iload_n hx hb dX4_dispute_19 rfl (lv_at hl 1 rfl) ?_
  refine zast hx hb hK hP hD hS 11 (n := 40) (f := (M 13)) rfl (b) rfl (by omega) (by decide) (wM a cI cZ (pt (pt M 12 (b) ((M 12 (b)) + (mopn (M) (b)))) 13 (b) (nI (rc)))) rfl dX4_dispute_20 (fun H locs hP hD hS => ?_)
  exact W.vret hx hb hr (fun t ht hW => ⟨⟨(pt (pt M 12 (b) ((M 12 (b)) + (mopn (M) (b)))) 13 (b) (nI (rc))), rfl, rfl, by rw [ht]; exact hP, va_K.moved hW.alike hK, hD⟩, hS.F ht⟩) hS.2.2 dX4_dispute_21
set_option maxHeartbeats 4000000 in
set_option maxRecDepth 100000 in
theorem c_X4_payNamed (l : Launch) (D : va_G) (cI cZ : ClassId) (a : Nat → Nat) (sz : Nat) (M : Nat → Nat → Int32) (rc : Nat) (rf : Int32) (n : Nat) (hrc : rc < 30) (hM : M 2 0 = nI n) (hn : n ≤ 40) : Met l yX4_payNamed wsX4_payNamed ({ frames := 4, cells := 0, slots := 0, locals := 90 } : Room) (va_Pc [.ref (a 0), .int (nI (rc)), .int (rf)] (PreW D cI cZ (wM a cI cZ M) sz)) (va_Qv (fun (u : Nat → Nat → Int32) => u = mnam M rc rf n) (fun (u : Nat → Nat → Int32) => PostW D cI cZ (va_A (wM a cI cZ M) sz) (wM a cI cZ u)) (va_A (wM a cI cZ M) sz)) 0 0 (va_A (wM a cI cZ M) sz) := by
  refine Met.ofW (cc := cX4_payNamed) (maxL := 5) (ret := none) (by decide) rfl ?_
  intro p e s m args below meth c s₁ BB hml hv
  obtain ⟨rfl, hsz, hP, hK, hD0⟩ := hv
  have hx := BB.exec
  have hb := BB.bytes
  have hr := BB.returns
  have hts := atoms_spec (ws := wsX4_payNamed) BB.pre
  have hown : s.vm.findClass RX4 = some m.cls := findClass_of_methodNamed BB.named
  have hlocks := BB.notSynchronized
  clear BB
  subst hsz
  have hD := hD0.self (sz := s.heap.size)
  clear hD0
  generalize hAe : va_A (wM a cI cZ M) s.heap.size = A at hD ⊢
  have hA : ∀ q : Nat, s.heap.size ≤ q → A q := fun q h => by rw [← hAe]; exact Or.inr h
  clear hAe
  have hS : va_S A s.heap s.heap [] := va_S.rf
  have hl := lv_entry ([.ref (a 0), .int (nI (rc)), .int (rf)]) (n := 5) (Nat.le_of_ble_eq_true rfl)
  rw [lg_entry_eq]
  generalize (lg_sl ([.ref (a 0), .int (nI (rc)), .int (rf)]) ++ List.replicate (5 - (lg_sl ([.ref (a 0), .int (nI (rc)), .int (rf)])).length) Slot.unset).toArray = ls at hl ⊢
  have hl : lv_has ls 5 [(0, .ref (a 0)), (1, .int (nI (rc))), (2, .int (rf))] := hl
  generalize hHe : s.heap = H at hP
  have hS : va_S A s.heap H [] := by rw [← hHe]; exact va_S.rf
  clear hHe
  generalize hLe : ([] : List Loc) = locs at hS ⊢
  clear hLe
  refine lv_iconst (v := nI (0)) hx hb dX4_payNamed_0 (by decide) ?_
  refine lv_istore_n (lv' := [(3, .int (nI (0))), (0, .ref (a 0)), (1, .int (nI (rc))), (2, .int (rf))]) hx hb dX4_payNamed_1 rfl hl (by decide) rfl (fun ls hl => ?_)
  have loop2 : ∀ (fu : Nat) (i : Nat) (Mi : Nat → Nat → Int32) (hin : i ≤ n) (hMi : Mi 2 0 = nI n) (hg : mnm1 rc rf n 0 M = mnm1 rc rf (n - i) i Mi) (hfu : n - i < fu) (H : Heap) (locs : List Loc) (hP : va_P D vwCl (wM a cI cZ Mi) H) (hD : va_D A (wM a cI cZ Mi)) (hS : va_S A s.heap H locs) (ls : Array Slot) (hl : lv_has ls 5 [(3, .int (nI (i))), (0, .ref (a 0)), (1, .int (nI (rc))), (2, .int (rf))]), W p l e (headSpec wsX4_payNamed ({ frames := 4, cells := 0, slots := 0, locals := 90 } : Room)).room s m ([.ref (a 0), .int (nI (rc)), .int (rf)] : List Value).toArray below meth c H locs 0 0 (MQ below (va_Qv (fun (u : Nat → Nat → Int32) => u = mnam M rc rf n) (fun (u : Nat → Nat → Int32) => PostW D cI cZ A (wM a cI cZ u)) A) ([.ref (a 0), .int (nI (rc)), .int (rf)] : List Value).toArray s 0 0 A) (F0 m 2 ls []) := by
    clear hP hD hS hl
    intro fu2
    induction fu2 with
    | zero => intro i Mi hin hMi hg hfu; exact absurd hfu (Nat.not_lt_zero _)
    | succ fu2 ih2 =>
      intro i Mi hin hMi hg hfu H locs hP hD hS ls hl
      refine lv_iload_n hx hb dX4_payNamed_2 rfl (lv_at hl 0 rfl) ?_
      refine lv_aload_n hx hb dX4_payNamed_3 rfl (lv_at hl 1 rfl) ?_
      refine va_get (D := D) (ci := 4) (v := .int (nI (n))) (C := RX4) (T := TX4) (N := 24) hx hb hts (fun w h => List.mem_cons_of_mem _ (List.mem_append_right _ h)) hown hK hP 0 rfl rfl 2 (by decide) (hts (.fieldLink RX4 79 "CashAllocatorModel" "bills" "I") (by decide +kernel)) (fun _ h9 => h9) (congrArg (fun z => some (Value.int z)) hMi) dX4_payNamed_4 ?_
      refine lv_icmp_ge (tgt := 60) hx hb dX4_payNamed_7 (by decide) (fun c7 => ?_) (fun c7 => ?_)
      · -- 7 taken
        rw [nI_leI (by omega) (by omega)] at c7
        have hst : mnam M rc rf n = mnm2 rc rf (n - 0) 0 Mi := by unfold mnam; rw [hg, show n - i = 0 by omega]; rfl
        refine lv_iconst (v := nI (0)) hx hb dX4_payNamed_60 (by decide) ?_
        refine lv_istore_n (lv' := [(3, .int (nI (0))), (0, .ref (a 0)), (1, .int (nI (rc))), (2, .int (rf))]) hx hb dX4_payNamed_61 rfl hl (by decide) rfl (fun ls hl => ?_)
        have loop62 : ∀ (fu : Nat) (j : Nat) (Mj : Nat → Nat → Int32) (hjn : j ≤ n) (hMj : Mj 2 0 = nI n) (hh : mnam M rc rf n = mnm2 rc rf (n - j) j Mj) (hfu : n - j < fu) (H : Heap) (locs : List Loc) (hP : va_P D vwCl (wM a cI cZ Mj) H) (hD : va_D A (wM a cI cZ Mj)) (hS : va_S A s.heap H locs) (ls : Array Slot) (hl : lv_has ls 5 [(3, .int (nI (j))), (0, .ref (a 0)), (1, .int (nI (rc))), (2, .int (rf))]), W p l e (headSpec wsX4_payNamed ({ frames := 4, cells := 0, slots := 0, locals := 90 } : Room)).room s m ([.ref (a 0), .int (nI (rc)), .int (rf)] : List Value).toArray below meth c H locs 0 0 (MQ below (va_Qv (fun (u : Nat → Nat → Int32) => u = mnam M rc rf n) (fun (u : Nat → Nat → Int32) => PostW D cI cZ A (wM a cI cZ u)) A) ([.ref (a 0), .int (nI (rc)), .int (rf)] : List Value).toArray s 0 0 A) (F0 m 62 ls []) := by
          clear hP hD hS hl
          intro fu62
          induction fu62 with
          | zero => intro j Mj hjn hMj hh hfu; exact absurd hfu (Nat.not_lt_zero _)
          | succ fu62 ih62 =>
            intro j Mj hjn hMj hh hfu H locs hP hD hS ls hl
            refine lv_iload_n hx hb dX4_payNamed_62 rfl (lv_at hl 0 rfl) ?_
            refine lv_aload_n hx hb dX4_payNamed_63 rfl (lv_at hl 1 rfl) ?_
            refine va_get (D := D) (ci := 4) (v := .int (nI (n))) (C := RX4) (T := TX4) (N := 24) hx hb hts (fun w h => List.mem_cons_of_mem _ (List.mem_append_right _ h)) hown hK hP 0 rfl rfl 2 (by decide) (hts (.fieldLink RX4 79 "CashAllocatorModel" "bills" "I") (by decide +kernel)) (fun _ h9 => h9) (congrArg (fun z => some (Value.int z)) hMj) dX4_payNamed_64 ?_
            refine lv_icmp_ge (tgt := 145) hx hb dX4_payNamed_67 (by decide) (fun c67 => ?_) (fun c67 => ?_)
            · -- 67 taken
              rw [nI_leI (by omega) (by omega)] at c67
              have hfin : Mj = mnam M rc rf n := by rw [hh, show n - j = 0 by omega]; rfl
              exact W.vret hx hb hr (fun t ht hW => ⟨⟨Mj, rfl, hfin, by rw [ht]; exact hP, va_K.moved hW.alike hK, hD⟩, hS.F ht⟩) hS.2.2 dX4_payNamed_145
            · -- 67 on
              rw [nI_leI (by omega) (by omega)] at c67
              have c67 : j < n := by omega
              have hk2 : n - j = (n - (j + 1)) + 1 := by omega
              rw [hk2] at hh
              refine lv_aload_n hx hb dX4_payNamed_70 rfl (lv_at hl 1 rfl) ?_
              refine va_get (D := D) (ci := 4) (v := .ref (a 1)) (C := RX4) (T := TX4) (N := 24) hx hb hts (fun w h => List.mem_cons_of_mem _ (List.mem_append_right _ h)) hown hK hP 0 rfl rfl 3 (by decide) (hts (.fieldLink RX4 7 "CashAllocatorModel" "owners" "[I") (by decide +kernel)) (fun _ h9 => h9) rfl dX4_payNamed_71 ?_
              refine lv_iload_n hx hb dX4_payNamed_74 rfl (lv_at hl 0 rfl) ?_
              refine zald hx hb hK hP 1 (n := 40) (f := (Mj 3)) rfl (j) rfl (by omega) (by decide) dX4_payNamed_75 ?_
              refine lv_aload_n hx hb dX4_payNamed_76 rfl (lv_at hl 1 rfl) ?_
              refine va_get (D := D) (ci := 4) (v := .ref (a 14)) (C := RX4) (T := TX4) (N := 24) hx hb hts (fun w h => List.mem_cons_of_mem _ (List.mem_append_right _ h)) hown hK hP 0 rfl rfl 17 (by decide) (hts (.fieldLink RX4 49 "CashAllocatorModel" "payers" "[I") (by decide +kernel)) (fun _ h9 => h9) rfl dX4_payNamed_77 ?_
              refine lv_iload_n hx hb dX4_payNamed_80 rfl (lv_at hl 2 rfl) ?_
              refine zald hx hb hK hP 14 (n := 30) (f := (Mj 17)) rfl (rc) rfl (by omega) (by decide) dX4_payNamed_81 ?_
              refine lv_icmp_ne (tgt := 116) hx hb dX4_payNamed_82 (by decide) (fun c82 => ?_) (fun c82 => ?_)
              · -- 82 taken
                have hh2 : mnam M rc rf n = mnm2 rc rf (n - (j + 1)) (j + 1) Mj := by rw [hh, mnm2, if_neg (fun z => c82 z.1)]
                refine lv_iconst (v := 0) hx hb dX4_payNamed_116 (by decide) ?_
                refine lv_istore (lv' := [(4, .int (0)), (3, .int (nI (j))), (0, .ref (a 0)), (1, .int (nI (rc))), (2, .int (rf))]) hx hb dX4_payNamed_117 hl (by decide) rfl (fun ls hl => ?_)
                refine lv_iload hx hb dX4_payNamed_119 (lv_at hl 0 rfl) ?_
                refine lv_if_eq (tgt := 139) hx hb dX4_payNamed_121 (by decide) (fun c121 => ?_) (fun c121 => ?_)
                · -- 121 taken
                  refine lv_iinc (v := nI (j + 1)) (lv' := [(3, .int (nI (j + 1))), (4, .int (0)), (0, .ref (a 0)), (1, .int (nI (rc))), (2, .int (rf))]) hx hb dX4_payNamed_139 hl (k := 1) rfl (nI_1 _) (by decide) rfl (fun ls hl => ?_)
                  refine lv_goto (tgt := 62) hx hb dX4_payNamed_142 (by decide) ?_
                  exact ih62 (j + 1) (Mj) (by omega) hMj hh2 (by omega) _ _ hP hD hS _ (lv_sub hl [0, 2, 3, 4] rfl)
                · -- 121 on
                  exact absurd c121 (by decide)
              · -- 82 on
                refine lv_aload_n hx hb dX4_payNamed_85 rfl (lv_at hl 1 rfl) ?_
                refine va_get (D := D) (ci := 4) (v := .ref (a 3)) (C := RX4) (T := TX4) (N := 24) hx hb hts (fun w h => List.mem_cons_of_mem _ (List.mem_append_right _ h)) hown hK hP 0 rfl rfl 5 (by decide) (hts (.fieldLink RX4 16 "CashAllocatorModel" "references" "[I") (by decide +kernel)) (fun _ h9 => h9) rfl dX4_payNamed_86 ?_
                refine lv_iload_n hx hb dX4_payNamed_89 rfl (lv_at hl 0 rfl) ?_
                refine zald hx hb hK hP 3 (n := 40) (f := (Mj 5)) rfl (j) rfl (by omega) (by decide) dX4_payNamed_90 ?_
                refine lv_iload_n hx hb dX4_payNamed_91 rfl (lv_at hl 3 rfl) ?_
                refine lv_icmp_ne (tgt := 116) hx hb dX4_payNamed_92 (by decide) (fun c92 => ?_) (fun c92 => ?_)
                · -- 92 taken
                  have hh2 : mnam M rc rf n = mnm2 rc rf (n - (j + 1)) (j + 1) Mj := by rw [hh, mnm2, if_neg (fun z => c92 z.2.1)]
                  refine lv_iconst (v := 0) hx hb dX4_payNamed_116 (by decide) ?_
                  refine lv_istore (lv' := [(4, .int (0)), (3, .int (nI (j))), (0, .ref (a 0)), (1, .int (nI (rc))), (2, .int (rf))]) hx hb dX4_payNamed_117 hl (by decide) rfl (fun ls hl => ?_)
                  refine lv_iload hx hb dX4_payNamed_119 (lv_at hl 0 rfl) ?_
                  refine lv_if_eq (tgt := 139) hx hb dX4_payNamed_121 (by decide) (fun c121 => ?_) (fun c121 => ?_)
                  · -- 121 taken
                    refine lv_iinc (v := nI (j + 1)) (lv' := [(3, .int (nI (j + 1))), (4, .int (0)), (0, .ref (a 0)), (1, .int (nI (rc))), (2, .int (rf))]) hx hb dX4_payNamed_139 hl (k := 1) rfl (nI_1 _) (by decide) rfl (fun ls hl => ?_)
                    refine lv_goto (tgt := 62) hx hb dX4_payNamed_142 (by decide) ?_
                    exact ih62 (j + 1) (Mj) (by omega) hMj hh2 (by omega) _ _ hP hD hS _ (lv_sub hl [0, 2, 3, 4] rfl)
                  · -- 121 on
                    exact absurd c121 (by decide)
                · -- 92 on
                  refine lv_aload_n hx hb dX4_payNamed_95 rfl (lv_at hl 1 rfl) ?_
                  refine lv_iload_n hx hb dX4_payNamed_96 rfl (lv_at hl 0 rfl) ?_
                  refine zcVi (ci := 4) (q0 := 0) (wf := (fun (u : Unit) => (wM a cI cZ Mj))) (List.range 21) ⟨hx, hb, hml, hown, hts⟩ (zwAll 21 (by decide) rfl hP hD hS hA) hK (c_X4_openNow l D cI cZ a H.size (Mj) (j) (by first | assumption | omega)) (cwV 1 hts gX4_payNamed_X4_openNow rfl rfl rfl (by decide +kernel) ⟨Nat.le_of_ble_eq_true rfl, Nat.le_of_ble_eq_true rfl⟩) rfl rfl (by decide) (fun _ => rfl) rfl hl.1 rfl (Nat.le_of_ble_eq_true rfl) dX4_payNamed_97 ⟨Nat.le_of_ble_eq_true rfl, Nat.le_of_ble_eq_true rfl⟩ (fun r97 u H locs hw hP hD hS => ?_)
                  subst hw
                  refine lv_if_le (tgt := 116) hx hb dX4_payNamed_100 (by decide) (fun c100 => ?_) (fun c100 => ?_)
                  · -- 100 taken
                    have hh2 : mnam M rc rf n = mnm2 rc rf (n - (j + 1)) (j + 1) Mj := by rw [hh, mnm2, if_neg (fun z => z.2.2.1 c100)]
                    refine lv_iconst (v := 0) hx hb dX4_payNamed_116 (by decide) ?_
                    refine lv_istore (lv' := [(4, .int (0)), (3, .int (nI (j))), (0, .ref (a 0)), (1, .int (nI (rc))), (2, .int (rf))]) hx hb dX4_payNamed_117 hl (by decide) rfl (fun ls hl => ?_)
                    refine lv_iload hx hb dX4_payNamed_119 (lv_at hl 0 rfl) ?_
                    refine lv_if_eq (tgt := 139) hx hb dX4_payNamed_121 (by decide) (fun c121 => ?_) (fun c121 => ?_)
                    · -- 121 taken
                      refine lv_iinc (v := nI (j + 1)) (lv' := [(3, .int (nI (j + 1))), (4, .int (0)), (0, .ref (a 0)), (1, .int (nI (rc))), (2, .int (rf))]) hx hb dX4_payNamed_139 hl (k := 1) rfl (nI_1 _) (by decide) rfl (fun ls hl => ?_)
                      refine lv_goto (tgt := 62) hx hb dX4_payNamed_142 (by decide) ?_
                      exact ih62 (j + 1) (Mj) (by omega) hMj hh2 (by omega) _ _ hP hD hS _ (lv_sub hl [0, 2, 3, 4] rfl)
                    · -- 121 on
                      exact absurd c121 (by decide)
                  · -- 100 on
                    refine lv_aload_n hx hb dX4_payNamed_103 rfl (lv_at hl 1 rfl) ?_
                    refine va_get (D := D) (ci := 4) (v := .ref (a 15)) (C := RX4) (T := TX4) (N := 24) hx hb hts (fun w h => List.mem_cons_of_mem _ (List.mem_append_right _ h)) hown hK hP 0 rfl rfl 18 (by decide) (hts (.fieldLink RX4 52 "CashAllocatorModel" "left" "[I") (by decide +kernel)) (fun _ h9 => h9) rfl dX4_payNamed_104 ?_
                    refine lv_iload_n hx hb dX4_payNamed_107 rfl (lv_at hl 2 rfl) ?_
                    refine zald hx hb hK hP 15 (n := 30) (f := (Mj 18)) rfl (rc) rfl (by omega) (by decide) dX4_payNamed_108 ?_
                    refine lv_if_le (tgt := 116) hx hb dX4_payNamed_109 (by decide) (fun c109 => ?_) (fun c109 => ?_)
                    · -- 109 taken
                      have hh2 : mnam M rc rf n = mnm2 rc rf (n - (j + 1)) (j + 1) Mj := by rw [hh, mnm2, if_neg (fun z => z.2.2.2 c109)]
                      refine lv_iconst (v := 0) hx hb dX4_payNamed_116 (by decide) ?_
                      refine lv_istore (lv' := [(4, .int (0)), (3, .int (nI (j))), (0, .ref (a 0)), (1, .int (nI (rc))), (2, .int (rf))]) hx hb dX4_payNamed_117 hl (by decide) rfl (fun ls hl => ?_)
                      refine lv_iload hx hb dX4_payNamed_119 (lv_at hl 0 rfl) ?_
                      refine lv_if_eq (tgt := 139) hx hb dX4_payNamed_121 (by decide) (fun c121 => ?_) (fun c121 => ?_)
                      · -- 121 taken
                        refine lv_iinc (v := nI (j + 1)) (lv' := [(3, .int (nI (j + 1))), (4, .int (0)), (0, .ref (a 0)), (1, .int (nI (rc))), (2, .int (rf))]) hx hb dX4_payNamed_139 hl (k := 1) rfl (nI_1 _) (by decide) rfl (fun ls hl => ?_)
                        refine lv_goto (tgt := 62) hx hb dX4_payNamed_142 (by decide) ?_
                        exact ih62 (j + 1) (Mj) (by omega) hMj hh2 (by omega) _ _ hP hD hS _ (lv_sub hl [0, 2, 3, 4] rfl)
                      · -- 121 on
                        exact absurd c121 (by decide)
                    · -- 109 on
                      refine lv_iconst (v := 1) hx hb dX4_payNamed_112 (by decide) ?_
                      refine lv_goto (tgt := 117) hx hb dX4_payNamed_113 (by decide) ?_
                      refine lv_istore (lv' := [(4, .int (1)), (3, .int (nI (j))), (0, .ref (a 0)), (1, .int (nI (rc))), (2, .int (rf))]) hx hb dX4_payNamed_117 hl (by decide) rfl (fun ls hl => ?_)
                      refine lv_iload hx hb dX4_payNamed_119 (lv_at hl 0 rfl) ?_
                      refine lv_if_eq (tgt := 139) hx hb dX4_payNamed_121 (by decide) (fun c121 => ?_) (fun c121 => ?_)
                      · -- 121 taken
                        exact absurd c121 (by decide)
                      · -- 121 on
                        refine lv_aload_n hx hb dX4_payNamed_124 rfl (lv_at hl 2 rfl) ?_
                        refine lv_iload_n hx hb dX4_payNamed_125 rfl (lv_at hl 3 rfl) ?_
                        refine lv_iload_n hx hb dX4_payNamed_126 rfl (lv_at hl 1 rfl) ?_
                        refine zcVi (ci := 4) (q0 := 0) (wf := (fun (u : Nat → Nat → Int32) => (wM a cI cZ u))) (List.range 21) ⟨hx, hb, hml, hown, hts⟩ (zwAll 21 (by decide) rfl hP hD hS hA) hK (c_X4_pay l D cI cZ a H.size (Mj) (rc) (j) (by first | assumption | omega) (by first | assumption | omega)) (cwV 2 hts gX4_payNamed_X4_pay rfl rfl rfl (by decide +kernel) ⟨Nat.le_of_ble_eq_true rfl, Nat.le_of_ble_eq_true rfl⟩) rfl rfl (by decide) (fun _ => rfl) rfl hl.1 rfl (Nat.le_of_ble_eq_true rfl) dX4_payNamed_127 ⟨Nat.le_of_ble_eq_true rfl, Nat.le_of_ble_eq_true rfl⟩ (fun r127 u H locs hw hP hD hS => ?_)
                        obtain ⟨rfl, rfl⟩ := hw
                        have hP : va_P D vwCl (wM a cI cZ (mpay (Mj) (rc) (j))) H := hP
                        have hD : va_D A (wM a cI cZ (mpay (Mj) (rc) (j))) := hD
                        refine lv_if_ne (tgt := 139) hx hb dX4_payNamed_130 (by decide) (fun c130 => ?_) (fun c130 => ?_)
                        · -- 130 taken
                          have c130 := b2_1 c130
                          have hh2 : mnam M rc rf n = mnm2 rc rf (n - (j + 1)) (j + 1) (mpay Mj rc j) := by rw [hh, mnm2, if_pos ⟨c82, c92, c100, c109⟩, if_pos c130]
                          refine lv_iinc (v := nI (j + 1)) (lv' := [(3, .int (nI (j + 1))), (4, .int (1)), (0, .ref (a 0)), (1, .int (nI (rc))), (2, .int (rf))]) hx hb dX4_payNamed_139 hl (k := 1) rfl (nI_1 _) (by decide) rfl (fun ls hl => ?_)
                          refine lv_goto (tgt := 62) hx hb dX4_payNamed_142 (by decide) ?_
                          exact ih62 (j + 1) ((mpay (Mj) (rc) (j))) (by omega) (by rw [mpay_n]; exact hMj) hh2 (by omega) _ _ hP hD hS _ (lv_sub hl [0, 2, 3, 4] rfl)
                        · -- 130 on
                          have c130 := b2_0 c130
                          have hh2 : mnam M rc rf n = mnm2 rc rf (n - (j + 1)) (j + 1) (mdsp (mpay Mj rc j) rc j) := by rw [hh, mnm2, if_pos ⟨c82, c92, c100, c109⟩, if_neg c130]
                          refine lv_aload_n hx hb dX4_payNamed_133 rfl (lv_at hl 2 rfl) ?_
                          refine lv_iload_n hx hb dX4_payNamed_134 rfl (lv_at hl 3 rfl) ?_
                          refine lv_iload_n hx hb dX4_payNamed_135 rfl (lv_at hl 1 rfl) ?_
                          refine zcVv (ci := 4) (q0 := 0) (wf := (fun (u : Nat → Nat → Int32) => (wM a cI cZ u))) (List.range 21) ⟨hx, hb, hml, hown, hts⟩ (zwAll 21 (by decide) rfl hP hD hS hA) hK (c_X4_dispute l D cI cZ a H.size ((mpay (Mj) (rc) (j))) (rc) (j) (by first | assumption | omega) (by first | assumption | omega)) (cwV 2 hts gX4_payNamed_X4_dispute rfl rfl rfl (by decide +kernel) ⟨Nat.le_of_ble_eq_true rfl, Nat.le_of_ble_eq_true rfl⟩) rfl rfl (by decide) (fun _ => rfl) rfl hl.1 rfl (Nat.le_of_ble_eq_true rfl) dX4_payNamed_136 ⟨Nat.le_of_ble_eq_true rfl, Nat.le_of_ble_eq_true rfl⟩ (fun u H locs hw hP hD hS => ?_)
                          subst hw
                          have hP : va_P D vwCl (wM a cI cZ (mdsp ((mpay (Mj) (rc) (j))) (rc) (j))) H := hP
                          have hD : va_D A (wM a cI cZ (mdsp ((mpay (Mj) (rc) (j))) (rc) (j))) := hD
                          refine lv_iinc (v := nI (j + 1)) (lv' := [(3, .int (nI (j + 1))), (4, .int (1)), (0, .ref (a 0)), (1, .int (nI (rc))), (2, .int (rf))]) hx hb dX4_payNamed_139 hl (k := 1) rfl (nI_1 _) (by decide) rfl (fun ls hl => ?_)
                          refine lv_goto (tgt := 62) hx hb dX4_payNamed_142 (by decide) ?_
                          exact ih62 (j + 1) ((mdsp ((mpay (Mj) (rc) (j))) (rc) (j))) (by omega) (by rw [mdsp_n, mpay_n]; exact hMj) hh2 (by omega) _ _ hP hD hS _ (lv_sub hl [0, 2, 3, 4] rfl)
        exact loop62 _ (0) (Mi) (Nat.zero_le _) (hMi) (hst) (Nat.lt_succ_self _) _ _ hP hD hS _ (lv_sub hl [0, 1, 2, 3] rfl)
      · -- 7 on
        rw [nI_leI (by omega) (by omega)] at c7
        have c7 : i < n := by omega
        have hk : n - i = (n - (i + 1)) + 1 := by omega
        rw [hk] at hg
        refine lv_aload_n hx hb dX4_payNamed_10 rfl (lv_at hl 1 rfl) ?_
        refine va_get (D := D) (ci := 4) (v := .ref (a 14)) (C := RX4) (T := TX4) (N := 24) hx hb hts (fun w h => List.mem_cons_of_mem _ (List.mem_append_right _ h)) hown hK hP 0 rfl rfl 17 (by decide) (hts (.fieldLink RX4 49 "CashAllocatorModel" "payers" "[I") (by decide +kernel)) (fun _ h9 => h9) rfl dX4_payNamed_11 ?_
        refine lv_iload_n hx hb dX4_payNamed_14 rfl (lv_at hl 2 rfl) ?_
        refine zald hx hb hK hP 14 (n := 30) (f := (Mi 17)) rfl (rc) rfl (by omega) (by decide) dX4_payNamed_15 ?_
        refine lv_iconst (v := (-1)) hx hb dX4_payNamed_16 (by decide) ?_
        refine lv_icmp_ne (tgt := 60) hx hb dX4_payNamed_17 (by decide) (fun c17 => ?_) (fun c17 => ?_)
        · -- 17 taken
          have hst : mnam M rc rf n = mnm2 rc rf (n - 0) 0 Mi := by unfold mnam; rw [hg, mnm1, if_neg c17]; rfl
          refine lv_iconst (v := nI (0)) hx hb dX4_payNamed_60 (by decide) ?_
          refine lv_istore_n (lv' := [(3, .int (nI (0))), (0, .ref (a 0)), (1, .int (nI (rc))), (2, .int (rf))]) hx hb dX4_payNamed_61 rfl hl (by decide) rfl (fun ls hl => ?_)
          have loop62 : ∀ (fu : Nat) (j : Nat) (Mj : Nat → Nat → Int32) (hjn : j ≤ n) (hMj : Mj 2 0 = nI n) (hh : mnam M rc rf n = mnm2 rc rf (n - j) j Mj) (hfu : n - j < fu) (H : Heap) (locs : List Loc) (hP : va_P D vwCl (wM a cI cZ Mj) H) (hD : va_D A (wM a cI cZ Mj)) (hS : va_S A s.heap H locs) (ls : Array Slot) (hl : lv_has ls 5 [(3, .int (nI (j))), (0, .ref (a 0)), (1, .int (nI (rc))), (2, .int (rf))]), W p l e (headSpec wsX4_payNamed ({ frames := 4, cells := 0, slots := 0, locals := 90 } : Room)).room s m ([.ref (a 0), .int (nI (rc)), .int (rf)] : List Value).toArray below meth c H locs 0 0 (MQ below (va_Qv (fun (u : Nat → Nat → Int32) => u = mnam M rc rf n) (fun (u : Nat → Nat → Int32) => PostW D cI cZ A (wM a cI cZ u)) A) ([.ref (a 0), .int (nI (rc)), .int (rf)] : List Value).toArray s 0 0 A) (F0 m 62 ls []) := by
            clear hP hD hS hl
            intro fu62
            induction fu62 with
            | zero => intro j Mj hjn hMj hh hfu; exact absurd hfu (Nat.not_lt_zero _)
            | succ fu62 ih62 =>
              intro j Mj hjn hMj hh hfu H locs hP hD hS ls hl
              refine lv_iload_n hx hb dX4_payNamed_62 rfl (lv_at hl 0 rfl) ?_
              refine lv_aload_n hx hb dX4_payNamed_63 rfl (lv_at hl 1 rfl) ?_
              refine va_get (D := D) (ci := 4) (v := .int (nI (n))) (C := RX4) (T := TX4) (N := 24) hx hb hts (fun w h => List.mem_cons_of_mem _ (List.mem_append_right _ h)) hown hK hP 0 rfl rfl 2 (by decide) (hts (.fieldLink RX4 79 "CashAllocatorModel" "bills" "I") (by decide +kernel)) (fun _ h9 => h9) (congrArg (fun z => some (Value.int z)) hMj) dX4_payNamed_64 ?_
              refine lv_icmp_ge (tgt := 145) hx hb dX4_payNamed_67 (by decide) (fun c67 => ?_) (fun c67 => ?_)
              · -- 67 taken
                rw [nI_leI (by omega) (by omega)] at c67
                have hfin : Mj = mnam M rc rf n := by rw [hh, show n - j = 0 by omega]; rfl
                exact W.vret hx hb hr (fun t ht hW => ⟨⟨Mj, rfl, hfin, by rw [ht]; exact hP, va_K.moved hW.alike hK, hD⟩, hS.F ht⟩) hS.2.2 dX4_payNamed_145
              · -- 67 on
                rw [nI_leI (by omega) (by omega)] at c67
                have c67 : j < n := by omega
                have hk2 : n - j = (n - (j + 1)) + 1 := by omega
                rw [hk2] at hh
                refine lv_aload_n hx hb dX4_payNamed_70 rfl (lv_at hl 1 rfl) ?_
                refine va_get (D := D) (ci := 4) (v := .ref (a 1)) (C := RX4) (T := TX4) (N := 24) hx hb hts (fun w h => List.mem_cons_of_mem _ (List.mem_append_right _ h)) hown hK hP 0 rfl rfl 3 (by decide) (hts (.fieldLink RX4 7 "CashAllocatorModel" "owners" "[I") (by decide +kernel)) (fun _ h9 => h9) rfl dX4_payNamed_71 ?_
                refine lv_iload_n hx hb dX4_payNamed_74 rfl (lv_at hl 0 rfl) ?_
                refine zald hx hb hK hP 1 (n := 40) (f := (Mj 3)) rfl (j) rfl (by omega) (by decide) dX4_payNamed_75 ?_
                refine lv_aload_n hx hb dX4_payNamed_76 rfl (lv_at hl 1 rfl) ?_
                refine va_get (D := D) (ci := 4) (v := .ref (a 14)) (C := RX4) (T := TX4) (N := 24) hx hb hts (fun w h => List.mem_cons_of_mem _ (List.mem_append_right _ h)) hown hK hP 0 rfl rfl 17 (by decide) (hts (.fieldLink RX4 49 "CashAllocatorModel" "payers" "[I") (by decide +kernel)) (fun _ h9 => h9) rfl dX4_payNamed_77 ?_
                refine lv_iload_n hx hb dX4_payNamed_80 rfl (lv_at hl 2 rfl) ?_
                refine zald hx hb hK hP 14 (n := 30) (f := (Mj 17)) rfl (rc) rfl (by omega) (by decide) dX4_payNamed_81 ?_
                refine lv_icmp_ne (tgt := 116) hx hb dX4_payNamed_82 (by decide) (fun c82 => ?_) (fun c82 => ?_)
                · -- 82 taken
                  have hh2 : mnam M rc rf n = mnm2 rc rf (n - (j + 1)) (j + 1) Mj := by rw [hh, mnm2, if_neg (fun z => c82 z.1)]
                  refine lv_iconst (v := 0) hx hb dX4_payNamed_116 (by decide) ?_
                  refine lv_istore (lv' := [(4, .int (0)), (3, .int (nI (j))), (0, .ref (a 0)), (1, .int (nI (rc))), (2, .int (rf))]) hx hb dX4_payNamed_117 hl (by decide) rfl (fun ls hl => ?_)
                  refine lv_iload hx hb dX4_payNamed_119 (lv_at hl 0 rfl) ?_
                  refine lv_if_eq (tgt := 139) hx hb dX4_payNamed_121 (by decide) (fun c121 => ?_) (fun c121 => ?_)
                  · -- 121 taken
                    refine lv_iinc (v := nI (j + 1)) (lv' := [(3, .int (nI (j + 1))), (4, .int (0)), (0, .ref (a 0)), (1, .int (nI (rc))), (2, .int (rf))]) hx hb dX4_payNamed_139 hl (k := 1) rfl (nI_1 _) (by decide) rfl (fun ls hl => ?_)
                    refine lv_goto (tgt := 62) hx hb dX4_payNamed_142 (by decide) ?_
                    exact ih62 (j + 1) (Mj) (by omega) hMj hh2 (by omega) _ _ hP hD hS _ (lv_sub hl [0, 2, 3, 4] rfl)
                  · -- 121 on
                    exact absurd c121 (by decide)
                · -- 82 on
                  refine lv_aload_n hx hb dX4_payNamed_85 rfl (lv_at hl 1 rfl) ?_
                  refine va_get (D := D) (ci := 4) (v := .ref (a 3)) (C := RX4) (T := TX4) (N := 24) hx hb hts (fun w h => List.mem_cons_of_mem _ (List.mem_append_right _ h)) hown hK hP 0 rfl rfl 5 (by decide) (hts (.fieldLink RX4 16 "CashAllocatorModel" "references" "[I") (by decide +kernel)) (fun _ h9 => h9) rfl dX4_payNamed_86 ?_
                  refine lv_iload_n hx hb dX4_payNamed_89 rfl (lv_at hl 0 rfl) ?_
                  refine zald hx hb hK hP 3 (n := 40) (f := (Mj 5)) rfl (j) rfl (by omega) (by decide) dX4_payNamed_90 ?_
                  refine lv_iload_n hx hb dX4_payNamed_91 rfl (lv_at hl 3 rfl) ?_
                  refine lv_icmp_ne (tgt := 116) hx hb dX4_payNamed_92 (by decide) (fun c92 => ?_) (fun c92 => ?_)
                  · -- 92 taken
                    have hh2 : mnam M rc rf n = mnm2 rc rf (n - (j + 1)) (j + 1) Mj := by rw [hh, mnm2, if_neg (fun z => c92 z.2.1)]
                    refine lv_iconst (v := 0) hx hb dX4_payNamed_116 (by decide) ?_
                    refine lv_istore (lv' := [(4, .int (0)), (3, .int (nI (j))), (0, .ref (a 0)), (1, .int (nI (rc))), (2, .int (rf))]) hx hb dX4_payNamed_117 hl (by decide) rfl (fun ls hl => ?_)
                    refine lv_iload hx hb dX4_payNamed_119 (lv_at hl 0 rfl) ?_
                    refine lv_if_eq (tgt := 139) hx hb dX4_payNamed_121 (by decide) (fun c121 => ?_) (fun c121 => ?_)
                    · -- 121 taken
                      refine lv_iinc (v := nI (j + 1)) (lv' := [(3, .int (nI (j + 1))), (4, .int (0)), (0, .ref (a 0)), (1, .int (nI (rc))), (2, .int (rf))]) hx hb dX4_payNamed_139 hl (k := 1) rfl (nI_1 _) (by decide) rfl (fun ls hl => ?_)
                      refine lv_goto (tgt := 62) hx hb dX4_payNamed_142 (by decide) ?_
                      exact ih62 (j + 1) (Mj) (by omega) hMj hh2 (by omega) _ _ hP hD hS _ (lv_sub hl [0, 2, 3, 4] rfl)
                    · -- 121 on
                      exact absurd c121 (by decide)
                  · -- 92 on
                    refine lv_aload_n hx hb dX4_payNamed_95 rfl (lv_at hl 1 rfl) ?_
                    refine lv_iload_n hx hb dX4_payNamed_96 rfl (lv_at hl 0 rfl) ?_
                    refine zcVi (ci := 4) (q0 := 0) (wf := (fun (u : Unit) => (wM a cI cZ Mj))) (List.range 21) ⟨hx, hb, hml, hown, hts⟩ (zwAll 21 (by decide) rfl hP hD hS hA) hK (c_X4_openNow l D cI cZ a H.size (Mj) (j) (by first | assumption | omega)) (cwV 1 hts gX4_payNamed_X4_openNow rfl rfl rfl (by decide +kernel) ⟨Nat.le_of_ble_eq_true rfl, Nat.le_of_ble_eq_true rfl⟩) rfl rfl (by decide) (fun _ => rfl) rfl hl.1 rfl (Nat.le_of_ble_eq_true rfl) dX4_payNamed_97 ⟨Nat.le_of_ble_eq_true rfl, Nat.le_of_ble_eq_true rfl⟩ (fun r97 u H locs hw hP hD hS => ?_)
                    subst hw
                    refine lv_if_le (tgt := 116) hx hb dX4_payNamed_100 (by decide) (fun c100 => ?_) (fun c100 => ?_)
                    · -- 100 taken
                      have hh2 : mnam M rc rf n = mnm2 rc rf (n - (j + 1)) (j + 1) Mj := by rw [hh, mnm2, if_neg (fun z => z.2.2.1 c100)]
                      refine lv_iconst (v := 0) hx hb dX4_payNamed_116 (by decide) ?_
                      refine lv_istore (lv' := [(4, .int (0)), (3, .int (nI (j))), (0, .ref (a 0)), (1, .int (nI (rc))), (2, .int (rf))]) hx hb dX4_payNamed_117 hl (by decide) rfl (fun ls hl => ?_)
                      refine lv_iload hx hb dX4_payNamed_119 (lv_at hl 0 rfl) ?_
                      refine lv_if_eq (tgt := 139) hx hb dX4_payNamed_121 (by decide) (fun c121 => ?_) (fun c121 => ?_)
                      · -- 121 taken
                        refine lv_iinc (v := nI (j + 1)) (lv' := [(3, .int (nI (j + 1))), (4, .int (0)), (0, .ref (a 0)), (1, .int (nI (rc))), (2, .int (rf))]) hx hb dX4_payNamed_139 hl (k := 1) rfl (nI_1 _) (by decide) rfl (fun ls hl => ?_)
                        refine lv_goto (tgt := 62) hx hb dX4_payNamed_142 (by decide) ?_
                        exact ih62 (j + 1) (Mj) (by omega) hMj hh2 (by omega) _ _ hP hD hS _ (lv_sub hl [0, 2, 3, 4] rfl)
                      · -- 121 on
                        exact absurd c121 (by decide)
                    · -- 100 on
                      refine lv_aload_n hx hb dX4_payNamed_103 rfl (lv_at hl 1 rfl) ?_
                      refine va_get (D := D) (ci := 4) (v := .ref (a 15)) (C := RX4) (T := TX4) (N := 24) hx hb hts (fun w h => List.mem_cons_of_mem _ (List.mem_append_right _ h)) hown hK hP 0 rfl rfl 18 (by decide) (hts (.fieldLink RX4 52 "CashAllocatorModel" "left" "[I") (by decide +kernel)) (fun _ h9 => h9) rfl dX4_payNamed_104 ?_
                      refine lv_iload_n hx hb dX4_payNamed_107 rfl (lv_at hl 2 rfl) ?_
                      refine zald hx hb hK hP 15 (n := 30) (f := (Mj 18)) rfl (rc) rfl (by omega) (by decide) dX4_payNamed_108 ?_
                      refine lv_if_le (tgt := 116) hx hb dX4_payNamed_109 (by decide) (fun c109 => ?_) (fun c109 => ?_)
                      · -- 109 taken
                        have hh2 : mnam M rc rf n = mnm2 rc rf (n - (j + 1)) (j + 1) Mj := by rw [hh, mnm2, if_neg (fun z => z.2.2.2 c109)]
                        refine lv_iconst (v := 0) hx hb dX4_payNamed_116 (by decide) ?_
                        refine lv_istore (lv' := [(4, .int (0)), (3, .int (nI (j))), (0, .ref (a 0)), (1, .int (nI (rc))), (2, .int (rf))]) hx hb dX4_payNamed_117 hl (by decide) rfl (fun ls hl => ?_)
                        refine lv_iload hx hb dX4_payNamed_119 (lv_at hl 0 rfl) ?_
                        refine lv_if_eq (tgt := 139) hx hb dX4_payNamed_121 (by decide) (fun c121 => ?_) (fun c121 => ?_)
                        · -- 121 taken
                          refine lv_iinc (v := nI (j + 1)) (lv' := [(3, .int (nI (j + 1))), (4, .int (0)), (0, .ref (a 0)), (1, .int (nI (rc))), (2, .int (rf))]) hx hb dX4_payNamed_139 hl (k := 1) rfl (nI_1 _) (by decide) rfl (fun ls hl => ?_)
                          refine lv_goto (tgt := 62) hx hb dX4_payNamed_142 (by decide) ?_
                          exact ih62 (j + 1) (Mj) (by omega) hMj hh2 (by omega) _ _ hP hD hS _ (lv_sub hl [0, 2, 3, 4] rfl)
                        · -- 121 on
                          exact absurd c121 (by decide)
                      · -- 109 on
                        refine lv_iconst (v := 1) hx hb dX4_payNamed_112 (by decide) ?_
                        refine lv_goto (tgt := 117) hx hb dX4_payNamed_113 (by decide) ?_
                        refine lv_istore (lv' := [(4, .int (1)), (3, .int (nI (j))), (0, .ref (a 0)), (1, .int (nI (rc))), (2, .int (rf))]) hx hb dX4_payNamed_117 hl (by decide) rfl (fun ls hl => ?_)
                        refine lv_iload hx hb dX4_payNamed_119 (lv_at hl 0 rfl) ?_
                        refine lv_if_eq (tgt := 139) hx hb dX4_payNamed_121 (by decide) (fun c121 => ?_) (fun c121 => ?_)
                        · -- 121 taken
                          exact absurd c121 (by decide)
                        · -- 121 on
                          refine lv_aload_n hx hb dX4_payNamed_124 rfl (lv_at hl 2 rfl) ?_
                          refine lv_iload_n hx hb dX4_payNamed_125 rfl (lv_at hl 3 rfl) ?_
                          refine lv_iload_n hx hb dX4_payNamed_126 rfl (lv_at hl 1 rfl) ?_
                          refine zcVi (ci := 4) (q0 := 0) (wf := (fun (u : Nat → Nat → Int32) => (wM a cI cZ u))) (List.range 21) ⟨hx, hb, hml, hown, hts⟩ (zwAll 21 (by decide) rfl hP hD hS hA) hK (c_X4_pay l D cI cZ a H.size (Mj) (rc) (j) (by first | assumption | omega) (by first | assumption | omega)) (cwV 2 hts gX4_payNamed_X4_pay rfl rfl rfl (by decide +kernel) ⟨Nat.le_of_ble_eq_true rfl, Nat.le_of_ble_eq_true rfl⟩) rfl rfl (by decide) (fun _ => rfl) rfl hl.1 rfl (Nat.le_of_ble_eq_true rfl) dX4_payNamed_127 ⟨Nat.le_of_ble_eq_true rfl, Nat.le_of_ble_eq_true rfl⟩ (fun r127 u H locs hw hP hD hS => ?_)
                          obtain ⟨rfl, rfl⟩ := hw
                          have hP : va_P D vwCl (wM a cI cZ (mpay (Mj) (rc) (j))) H := hP
                          have hD : va_D A (wM a cI cZ (mpay (Mj) (rc) (j))) := hD
                          refine lv_if_ne (tgt := 139) hx hb dX4_payNamed_130 (by decide) (fun c130 => ?_) (fun c130 => ?_)
                          · -- 130 taken
                            have c130 := b2_1 c130
                            have hh2 : mnam M rc rf n = mnm2 rc rf (n - (j + 1)) (j + 1) (mpay Mj rc j) := by rw [hh, mnm2, if_pos ⟨c82, c92, c100, c109⟩, if_pos c130]
                            refine lv_iinc (v := nI (j + 1)) (lv' := [(3, .int (nI (j + 1))), (4, .int (1)), (0, .ref (a 0)), (1, .int (nI (rc))), (2, .int (rf))]) hx hb dX4_payNamed_139 hl (k := 1) rfl (nI_1 _) (by decide) rfl (fun ls hl => ?_)
                            refine lv_goto (tgt := 62) hx hb dX4_payNamed_142 (by decide) ?_
                            exact ih62 (j + 1) ((mpay (Mj) (rc) (j))) (by omega) (by rw [mpay_n]; exact hMj) hh2 (by omega) _ _ hP hD hS _ (lv_sub hl [0, 2, 3, 4] rfl)
                          · -- 130 on
                            have c130 := b2_0 c130
                            have hh2 : mnam M rc rf n = mnm2 rc rf (n - (j + 1)) (j + 1) (mdsp (mpay Mj rc j) rc j) := by rw [hh, mnm2, if_pos ⟨c82, c92, c100, c109⟩, if_neg c130]
                            refine lv_aload_n hx hb dX4_payNamed_133 rfl (lv_at hl 2 rfl) ?_
                            refine lv_iload_n hx hb dX4_payNamed_134 rfl (lv_at hl 3 rfl) ?_
                            refine lv_iload_n hx hb dX4_payNamed_135 rfl (lv_at hl 1 rfl) ?_
                            refine zcVv (ci := 4) (q0 := 0) (wf := (fun (u : Nat → Nat → Int32) => (wM a cI cZ u))) (List.range 21) ⟨hx, hb, hml, hown, hts⟩ (zwAll 21 (by decide) rfl hP hD hS hA) hK (c_X4_dispute l D cI cZ a H.size ((mpay (Mj) (rc) (j))) (rc) (j) (by first | assumption | omega) (by first | assumption | omega)) (cwV 2 hts gX4_payNamed_X4_dispute rfl rfl rfl (by decide +kernel) ⟨Nat.le_of_ble_eq_true rfl, Nat.le_of_ble_eq_true rfl⟩) rfl rfl (by decide) (fun _ => rfl) rfl hl.1 rfl (Nat.le_of_ble_eq_true rfl) dX4_payNamed_136 ⟨Nat.le_of_ble_eq_true rfl, Nat.le_of_ble_eq_true rfl⟩ (fun u H locs hw hP hD hS => ?_)
                            subst hw
                            have hP : va_P D vwCl (wM a cI cZ (mdsp ((mpay (Mj) (rc) (j))) (rc) (j))) H := hP
                            have hD : va_D A (wM a cI cZ (mdsp ((mpay (Mj) (rc) (j))) (rc) (j))) := hD
                            refine lv_iinc (v := nI (j + 1)) (lv' := [(3, .int (nI (j + 1))), (4, .int (1)), (0, .ref (a 0)), (1, .int (nI (rc))), (2, .int (rf))]) hx hb dX4_payNamed_139 hl (k := 1) rfl (nI_1 _) (by decide) rfl (fun ls hl => ?_)
                            refine lv_goto (tgt := 62) hx hb dX4_payNamed_142 (by decide) ?_
                            exact ih62 (j + 1) ((mdsp ((mpay (Mj) (rc) (j))) (rc) (j))) (by omega) (by rw [mdsp_n, mpay_n]; exact hMj) hh2 (by omega) _ _ hP hD hS _ (lv_sub hl [0, 2, 3, 4] rfl)
          exact loop62 _ (0) (Mi) (Nat.zero_le _) (hMi) (hst) (Nat.lt_succ_self _) _ _ hP hD hS _ (lv_sub hl [0, 1, 2, 3] rfl)
        · -- 17 on
          refine lv_aload_n hx hb dX4_payNamed_20 rfl (lv_at hl 1 rfl) ?_
          refine va_get (D := D) (ci := 4) (v := .ref (a 14)) (C := RX4) (T := TX4) (N := 24) hx hb hts (fun w h => List.mem_cons_of_mem _ (List.mem_append_right _ h)) hown hK hP 0 rfl rfl 17 (by decide) (hts (.fieldLink RX4 49 "CashAllocatorModel" "payers" "[I") (by decide +kernel)) (fun _ h9 => h9) rfl dX4_payNamed_21 ?_
          refine lv_iload_n hx hb dX4_payNamed_24 rfl (lv_at hl 2 rfl) ?_
          refine lv_aload_n hx hb dX4_payNamed_25 rfl (lv_at hl 1 rfl) ?_
          refine va_get (D := D) (ci := 4) (v := .ref (a 3)) (C := RX4) (T := TX4) (N := 24) hx hb hts (fun w h => List.mem_cons_of_mem _ (List.mem_append_right _ h)) hown hK hP 0 rfl rfl 5 (by decide) (hts (.fieldLink RX4 16 "CashAllocatorModel" "references" "[I") (by decide +kernel)) (fun _ h9 => h9) rfl dX4_payNamed_26 ?_
          refine lv_iload_n hx hb dX4_payNamed_29 rfl (lv_at hl 0 rfl) ?_
          refine zald hx hb hK hP 3 (n := 40) (f := (Mi 5)) rfl (i) rfl (by omega) (by decide) dX4_payNamed_30 ?_
          refine lv_iload_n hx hb dX4_payNamed_31 rfl (lv_at hl 3 rfl) ?_
          refine lv_icmp_ne (tgt := 52) hx hb dX4_payNamed_32 (by decide) (fun c32 => ?_) (fun c32 => ?_)
          · -- 32 taken
            have hg2 : mnm1 rc rf n 0 M = mnm1 rc rf (n - (i + 1)) (i + 1) (pt Mi 17 rc (-1)) := by rw [hg, mnm1, if_pos c17, if_neg (fun z => c32 z.1)]
            refine lv_iconst (v := (-1)) hx hb dX4_payNamed_52 (by decide) ?_
            refine zast hx hb hK hP hD hS 14 (n := 30) (f := (Mi 17)) rfl (rc) rfl (by omega) (by decide) (wM a cI cZ (pt Mi 17 (rc) ((-1)))) rfl dX4_payNamed_53 (fun H locs hP hD hS => ?_)
            refine lv_iinc (v := nI (i + 1)) (lv' := [(3, .int (nI (i + 1))), (0, .ref (a 0)), (1, .int (nI (rc))), (2, .int (rf))]) hx hb dX4_payNamed_54 hl (k := 0) rfl (nI_1 _) (by decide) rfl (fun ls hl => ?_)
            refine lv_goto (tgt := 2) hx hb dX4_payNamed_57 (by decide) ?_
            exact ih2 (i + 1) ((pt Mi 17 (rc) ((-1)))) (by omega) hMi hg2 (by omega) _ _ hP hD hS _ (lv_sub hl [0, 1, 2, 3] rfl)
          · -- 32 on
            refine lv_aload_n hx hb dX4_payNamed_35 rfl (lv_at hl 1 rfl) ?_
            refine lv_iload_n hx hb dX4_payNamed_36 rfl (lv_at hl 0 rfl) ?_
            refine zcVi (ci := 4) (q0 := 0) (wf := (fun (u : Unit) => (wM a cI cZ Mi))) (List.range 21) ⟨hx, hb, hml, hown, hts⟩ (zwAll 21 (by decide) rfl hP hD hS hA) hK (c_X4_openNow l D cI cZ a H.size (Mi) (i) (by first | assumption | omega)) (cwV 1 hts gX4_payNamed_X4_openNow rfl rfl rfl (by decide +kernel) ⟨Nat.le_of_ble_eq_true rfl, Nat.le_of_ble_eq_true rfl⟩) rfl rfl (by decide) (fun _ => rfl) rfl hl.1 rfl (Nat.le_of_ble_eq_true rfl) dX4_payNamed_37 ⟨Nat.le_of_ble_eq_true rfl, Nat.le_of_ble_eq_true rfl⟩ (fun r37 u H locs hw hP hD hS => ?_)
            subst hw
            refine lv_if_le (tgt := 52) hx hb dX4_payNamed_40 (by decide) (fun c40 => ?_) (fun c40 => ?_)
            · -- 40 taken
              have hg2 : mnm1 rc rf n 0 M = mnm1 rc rf (n - (i + 1)) (i + 1) (pt Mi 17 rc (-1)) := by rw [hg, mnm1, if_pos c17, if_neg (fun z => z.2 c40)]
              refine lv_iconst (v := (-1)) hx hb dX4_payNamed_52 (by decide) ?_
              refine zast hx hb hK hP hD hS 14 (n := 30) (f := (Mi 17)) rfl (rc) rfl (by omega) (by decide) (wM a cI cZ (pt Mi 17 (rc) ((-1)))) rfl dX4_payNamed_53 (fun H locs hP hD hS => ?_)
              refine lv_iinc (v := nI (i + 1)) (lv' := [(3, .int (nI (i + 1))), (0, .ref (a 0)), (1, .int (nI (rc))), (2, .int (rf))]) hx hb dX4_payNamed_54 hl (k := 0) rfl (nI_1 _) (by decide) rfl (fun ls hl => ?_)
              refine lv_goto (tgt := 2) hx hb dX4_payNamed_57 (by decide) ?_
              exact ih2 (i + 1) ((pt Mi 17 (rc) ((-1)))) (by omega) hMi hg2 (by omega) _ _ hP hD hS _ (lv_sub hl [0, 1, 2, 3] rfl)
            · -- 40 on
              have hg2 : mnm1 rc rf n 0 M = mnm1 rc rf (n - (i + 1)) (i + 1) (pt Mi 17 rc (Mi 3 i)) := by rw [hg, mnm1, if_pos c17, if_pos ⟨c32, c40⟩]
              refine lv_aload_n hx hb dX4_payNamed_43 rfl (lv_at hl 1 rfl) ?_
              refine va_get (D := D) (ci := 4) (v := .ref (a 1)) (C := RX4) (T := TX4) (N := 24) hx hb hts (fun w h => List.mem_cons_of_mem _ (List.mem_append_right _ h)) hown hK hP 0 rfl rfl 3 (by decide) (hts (.fieldLink RX4 7 "CashAllocatorModel" "owners" "[I") (by decide +kernel)) (fun _ h9 => h9) rfl dX4_payNamed_44 ?_
              refine lv_iload_n hx hb dX4_payNamed_47 rfl (lv_at hl 0 rfl) ?_
              refine zald hx hb hK hP 1 (n := 40) (f := (Mi 3)) rfl (i) rfl (by omega) (by decide) dX4_payNamed_48 ?_
              refine lv_goto (tgt := 53) hx hb dX4_payNamed_49 (by decide) ?_
              refine zast hx hb hK hP hD hS 14 (n := 30) (f := (Mi 17)) rfl (rc) rfl (by omega) (by decide) (wM a cI cZ (pt Mi 17 (rc) (Mi 3 (i)))) rfl dX4_payNamed_53 (fun H locs hP hD hS => ?_)
              refine lv_iinc (v := nI (i + 1)) (lv' := [(3, .int (nI (i + 1))), (0, .ref (a 0)), (1, .int (nI (rc))), (2, .int (rf))]) hx hb dX4_payNamed_54 hl (k := 0) rfl (nI_1 _) (by decide) rfl (fun ls hl => ?_)
              refine lv_goto (tgt := 2) hx hb dX4_payNamed_57 (by decide) ?_
              exact ih2 (i + 1) ((pt Mi 17 (rc) (Mi 3 (i)))) (by omega) hMi hg2 (by omega) _ _ hP hD hS _ (lv_sub hl [0, 1, 2, 3] rfl)
  exact loop2 _ (0) (M) (Nat.zero_le _) (hM) (rfl) (Nat.lt_succ_self _) _ _ hP hD hS _ (lv_sub hl [0, 1, 2, 3] rfl)
set_option maxHeartbeats 4000000 in
set_option maxRecDepth 100000 in
theorem c_X4_dueOf (l : Launch) (D : va_G) (cI cZ : ClassId) (a : Nat → Nat) (sz : Nat) (M : Nat → Nat → Int32) (cu : Int32) (b : Nat) (n : Nat) (hM : M 2 0 = nI n) (hn : n ≤ 40) (hbb : b ≤ 100) : Met l yX4_dueOf wsX4_dueOf ({ frames := 3, cells := 0, slots := 0, locals := 64 } : Room) (va_Pc [.ref (a 0), .int (cu), .int (nI (b))] (PreW D cI cZ (wM a cI cZ M) sz)) (va_Qi (fun (r : Int32) (u : Unit) => r = mdo M cu n b) (fun (u : Unit) => PostW D cI cZ (va_A (wM a cI cZ M) sz) (wM a cI cZ M)) (va_A (wM a cI cZ M) sz)) 0 0 (va_A (wM a cI cZ M) sz) := by
  refine Met.ofW (cc := cX4_dueOf) (maxL := 3) (ret := (some .int)) (by decide) rfl ?_
  intro p e s m args below meth c s₁ BB hml hv
  obtain ⟨rfl, hsz, hP, hK, hD0⟩ := hv
  have hx := BB.exec
  have hb := BB.bytes
  have hr := BB.returns
  have hts := atoms_spec (ws := wsX4_dueOf) BB.pre
  have hown : s.vm.findClass RX4 = some m.cls := findClass_of_methodNamed BB.named
  have hlocks := BB.notSynchronized
  clear BB
  subst hsz
  have hD := hD0.self (sz := s.heap.size)
  clear hD0
  generalize hAe : va_A (wM a cI cZ M) s.heap.size = A at hD ⊢
  have hA : ∀ q : Nat, s.heap.size ≤ q → A q := fun q h => by rw [← hAe]; exact Or.inr h
  clear hAe
  have hS : va_S A s.heap s.heap [] := va_S.rf
  have hl := lv_entry ([.ref (a 0), .int (cu), .int (nI (b))]) (n := 3) (Nat.le_of_ble_eq_true rfl)
  rw [lg_entry_eq]
  generalize (lg_sl ([.ref (a 0), .int (cu), .int (nI (b))]) ++ List.replicate (3 - (lg_sl ([.ref (a 0), .int (cu), .int (nI (b))])).length) Slot.unset).toArray = ls at hl ⊢
  have hl : lv_has ls 3 [(0, .ref (a 0)), (1, .int (cu)), (2, .int (nI (b)))] := hl
  generalize hHe : s.heap = H at hP
  have hS : va_S A s.heap H [] := by rw [← hHe]; exact va_S.rf
  clear hHe
  generalize hLe : ([] : List Loc) = locs at hS ⊢
  clear hLe
  refine lv_aload_n hx hb dX4_dueOf_0 rfl (lv_at hl 0 rfl) ?_
  refine lv_iload_n hx hb dX4_dueOf_1 rfl (lv_at hl 2 rfl) ?_
  refine zcVi (ci := 4) (q0 := 0) (wf := (fun (u : Unit) => (wM a cI cZ M))) (List.range 21) ⟨hx, hb, hml, hown, hts⟩ (zwAll 21 (by decide) rfl hP hD hS hA) hK (c_X4_isBill l D cI cZ a H.size (M) (nI (b)) (n) (by first | assumption | omega) (by first | assumption | omega)) (cwV 1 hts gX4_dueOf_X4_isBill rfl rfl rfl (by decide +kernel) ⟨Nat.le_of_ble_eq_true rfl, Nat.le_of_ble_eq_true rfl⟩) rfl rfl (by decide) (fun _ => rfl) rfl hl.1 rfl (Nat.le_of_ble_eq_true rfl) dX4_dueOf_2 ⟨Nat.le_of_ble_eq_true rfl, Nat.le_of_ble_eq_true rfl⟩ (fun r2 u H locs hw hP hD hS => ?_)
  subst hw
  refine lv_if_eq (tgt := 34) hx hb dX4_dueOf_5 (by decide) (fun c5 => ?_) (fun c5 => ?_)
  · -- 5 taken
    have c5 := b2_0 c5
    have c5 : ¬ b < n := fun z => c5 ⟨nI_pos (by omega), (nI_ltI (by omega) (by omega)).mpr z⟩
    refine lv_iconst (v := (-1)) hx hb dX4_dueOf_34 (by decide) ?_
    exact W.iret (v := (-1)) hx hb hr (fun t ht hW => ⟨⟨(-1), (), rfl, (by unfold mdo; first | exact (if_neg (fun z => c5 z.1)).symm | exact (if_neg (fun z => c15 z.2.1)).symm | exact (if_neg (fun z => z.2.2 c23)).symm | exact (if_pos ⟨c5, c15, c23⟩).symm), by rw [ht]; exact hP, va_K.moved hW.alike hK, hD⟩, hS.F ht⟩) hS.2.2 dX4_dueOf_35
  · -- 5 on
    have c5 := b2_1 c5
    have c5 : b < n := (nI_ltI (by omega) (by omega)).mp c5.2
    refine lv_aload_n hx hb dX4_dueOf_8 rfl (lv_at hl 0 rfl) ?_
    refine va_get (D := D) (ci := 4) (v := .ref (a 1)) (C := RX4) (T := TX4) (N := 24) hx hb hts (fun w h => List.mem_cons_of_mem _ (List.mem_append_right _ h)) hown hK hP 0 rfl rfl 3 (by decide) (hts (.fieldLink RX4 7 "CashAllocatorModel" "owners" "[I") (by decide +kernel)) (fun _ h9 => h9) rfl dX4_dueOf_9 ?_
    refine lv_iload_n hx hb dX4_dueOf_12 rfl (lv_at hl 2 rfl) ?_
    refine zald hx hb hK hP 1 (n := 40) (f := (M 3)) rfl (b) rfl (by omega) (by decide) dX4_dueOf_13 ?_
    refine lv_iload_n hx hb dX4_dueOf_14 rfl (lv_at hl 1 rfl) ?_
    refine lv_icmp_ne (tgt := 34) hx hb dX4_dueOf_15 (by decide) (fun c15 => ?_) (fun c15 => ?_)
    · -- 15 taken
      refine lv_iconst (v := (-1)) hx hb dX4_dueOf_34 (by decide) ?_
      exact W.iret (v := (-1)) hx hb hr (fun t ht hW => ⟨⟨(-1), (), rfl, (by unfold mdo; first | exact (if_neg (fun z => c5 z.1)).symm | exact (if_neg (fun z => c15 z.2.1)).symm | exact (if_neg (fun z => z.2.2 c23)).symm | exact (if_pos ⟨c5, c15, c23⟩).symm), by rw [ht]; exact hP, va_K.moved hW.alike hK, hD⟩, hS.F ht⟩) hS.2.2 dX4_dueOf_35
    · -- 15 on
      refine lv_aload_n hx hb dX4_dueOf_18 rfl (lv_at hl 0 rfl) ?_
      refine lv_iload_n hx hb dX4_dueOf_19 rfl (lv_at hl 2 rfl) ?_
      refine zcVi (ci := 4) (q0 := 0) (wf := (fun (u : Unit) => (wM a cI cZ M))) (List.range 21) ⟨hx, hb, hml, hown, hts⟩ (zwAll 21 (by decide) rfl hP hD hS hA) hK (c_X4_openNow l D cI cZ a H.size (M) (b) (by first | assumption | omega)) (cwV 1 hts gX4_dueOf_X4_openNow rfl rfl rfl (by decide +kernel) ⟨Nat.le_of_ble_eq_true rfl, Nat.le_of_ble_eq_true rfl⟩) rfl rfl (by decide) (fun _ => rfl) rfl hl.1 rfl (Nat.le_of_ble_eq_true rfl) dX4_dueOf_20 ⟨Nat.le_of_ble_eq_true rfl, Nat.le_of_ble_eq_true rfl⟩ (fun r20 u H locs hw hP hD hS => ?_)
      subst hw
      refine lv_if_le (tgt := 34) hx hb dX4_dueOf_23 (by decide) (fun c23 => ?_) (fun c23 => ?_)
      · -- 23 taken
        refine lv_iconst (v := (-1)) hx hb dX4_dueOf_34 (by decide) ?_
        exact W.iret (v := (-1)) hx hb hr (fun t ht hW => ⟨⟨(-1), (), rfl, (by unfold mdo; first | exact (if_neg (fun z => c5 z.1)).symm | exact (if_neg (fun z => c15 z.2.1)).symm | exact (if_neg (fun z => z.2.2 c23)).symm | exact (if_pos ⟨c5, c15, c23⟩).symm), by rw [ht]; exact hP, va_K.moved hW.alike hK, hD⟩, hS.F ht⟩) hS.2.2 dX4_dueOf_35
      · -- 23 on
        refine lv_aload_n hx hb dX4_dueOf_26 rfl (lv_at hl 0 rfl) ?_
        refine lv_iload_n hx hb dX4_dueOf_27 rfl (lv_at hl 2 rfl) ?_
        refine zcVi (ci := 4) (q0 := 0) (wf := (fun (u : Unit) => (wM a cI cZ M))) (List.range 21) ⟨hx, hb, hml, hown, hts⟩ (zwAll 21 (by decide) rfl hP hD hS hA) hK (c_X4_dueNow l D cI cZ a H.size (M) (b) (by first | assumption | omega)) (cwV 1 hts gX4_dueOf_X4_dueNow rfl rfl rfl (by decide +kernel) ⟨Nat.le_of_ble_eq_true rfl, Nat.le_of_ble_eq_true rfl⟩) rfl rfl (by decide) (fun _ => rfl) rfl hl.1 rfl (Nat.le_of_ble_eq_true rfl) dX4_dueOf_28 ⟨Nat.le_of_ble_eq_true rfl, Nat.le_of_ble_eq_true rfl⟩ (fun r28 u H locs hw hP hD hS => ?_)
        subst hw
        refine lv_goto (tgt := 35) hx hb dX4_dueOf_31 (by decide) ?_
        exact W.iret (v := mdue (M) (b)) hx hb hr (fun t ht hW => ⟨⟨mdue (M) (b), (), rfl, (by unfold mdo; first | exact (if_neg (fun z => c5 z.1)).symm | exact (if_neg (fun z => c15 z.2.1)).symm | exact (if_neg (fun z => z.2.2 c23)).symm | exact (if_pos ⟨c5, c15, c23⟩).symm), by rw [ht]; exact hP, va_K.moved hW.alike hK, hD⟩, hS.F ht⟩) hS.2.2 dX4_dueOf_35
set_option maxHeartbeats 4000000 in
set_option maxRecDepth 100000 in
theorem c_X4_all_16 (l : Launch) (D : va_G) (cI cZ : ClassId) (a : Nat → Nat) (sz : Nat) (M : Nat → Nat → Int32) (q : Nat) (hMq : M 15 0 = nI q) (hq : q ≤ 30) : Met l yX4_all wsX4_all ({ frames := 0, cells := 0, slots := 0, locals := 0 } : Room) (va_Pc [.ref (a 0), .ref (a 13)] (PreW D cI cZ (wM a cI cZ M) sz)) (va_Qi (fun (r : Int32) (u : Unit) => r = l_sum (M 16) q) (fun (u : Unit) => PostW D cI cZ (va_A (wM a cI cZ M) sz) (wM a cI cZ M)) (va_A (wM a cI cZ M) sz)) 0 0 (va_A (wM a cI cZ M) sz) := by
  refine Met.ofW (cc := cX4_all) (maxL := 4) (ret := (some .int)) (by decide) rfl ?_
  intro p e s m args below meth c s₁ BB hml hv
  obtain ⟨rfl, hsz, hP, hK, hD0⟩ := hv
  have hx := BB.exec
  have hb := BB.bytes
  have hr := BB.returns
  have hts := atoms_spec (ws := wsX4_all) BB.pre
  have hown : s.vm.findClass RX4 = some m.cls := findClass_of_methodNamed BB.named
  have hlocks := BB.notSynchronized
  clear BB
  subst hsz
  have hD := hD0.self (sz := s.heap.size)
  clear hD0
  generalize hAe : va_A (wM a cI cZ M) s.heap.size = A at hD ⊢
  have hA : ∀ q : Nat, s.heap.size ≤ q → A q := fun q h => by rw [← hAe]; exact Or.inr h
  clear hAe
  have hS : va_S A s.heap s.heap [] := va_S.rf
  have hl := lv_entry ([.ref (a 0), .ref (a 13)]) (n := 4) (Nat.le_of_ble_eq_true rfl)
  rw [lg_entry_eq]
  generalize (lg_sl ([.ref (a 0), .ref (a 13)]) ++ List.replicate (4 - (lg_sl ([.ref (a 0), .ref (a 13)])).length) Slot.unset).toArray = ls at hl ⊢
  have hl : lv_has ls 4 [(0, .ref (a 0)), (1, .ref (a 13))] := hl
  generalize hHe : s.heap = H at hP
  have hS : va_S A s.heap H [] := by rw [← hHe]; exact va_S.rf
  clear hHe
  generalize hLe : ([] : List Loc) = locs at hS ⊢
  clear hLe
  refine lv_iconst (v := 0) hx hb dX4_all_0 (by decide) ?_
  refine lv_istore_n (lv' := [(2, .int (0)), (0, .ref (a 0)), (1, .ref (a 13))]) hx hb dX4_all_1 rfl hl (by decide) rfl (fun ls hl => ?_)
  refine lv_iconst (v := nI (0)) hx hb dX4_all_2 (by decide) ?_
  refine lv_istore_n (lv' := [(3, .int (nI (0))), (2, .int (0)), (0, .ref (a 0)), (1, .ref (a 13))]) hx hb dX4_all_3 rfl hl (by decide) rfl (fun ls hl => ?_)
  have loop4 : ∀ (fu : Nat) (i : Nat) (tt : Int32) (hin : i ≤ q) (ht : tt = l_sum (M 16) i) (hfu : q - i < fu) (H : Heap) (locs : List Loc) (hP : va_P D vwCl (wM a cI cZ M) H) (hD : va_D A (wM a cI cZ M)) (hS : va_S A s.heap H locs) (ls : Array Slot) (hl : lv_has ls 4 [(3, .int (nI (i))), (2, .int (tt)), (0, .ref (a 0)), (1, .ref (a 13))]), W p l e (headSpec wsX4_all ({ frames := 0, cells := 0, slots := 0, locals := 0 } : Room)).room s m ([.ref (a 0), .ref (a 13)] : List Value).toArray below meth c H locs 0 0 (MQ below (va_Qi (fun (r : Int32) (u : Unit) => r = l_sum (M 16) q) (fun (u : Unit) => PostW D cI cZ A (wM a cI cZ M)) A) ([.ref (a 0), .ref (a 13)] : List Value).toArray s 0 0 A) (F0 m 4 ls []) := by
    clear hP hD hS hl
    intro fu4
    induction fu4 with
    | zero => intro i tt hin ht hfu; exact absurd hfu (Nat.not_lt_zero _)
    | succ fu4 ih4 =>
      intro i tt hin ht hfu H locs hP hD hS ls hl
      refine lv_iload_n hx hb dX4_all_4 rfl (lv_at hl 0 rfl) ?_
      refine lv_aload_n hx hb dX4_all_5 rfl (lv_at hl 2 rfl) ?_
      refine va_get (D := D) (ci := 4) (v := .int (nI (q))) (C := RX4) (T := TX4) (N := 24) hx hb hts (fun w h => List.mem_cons_of_mem _ (List.mem_append_right _ h)) hown hK hP 0 rfl rfl 15 (by decide) (hts (.fieldLink RX4 82 "CashAllocatorModel" "receipts" "I") (by decide +kernel)) (fun _ h9 => h9) (congrArg (fun z => some (Value.int z)) hMq) dX4_all_6 ?_
      refine lv_icmp_ge (tgt := 24) hx hb dX4_all_9 (by decide) (fun c9 => ?_) (fun c9 => ?_)
      · -- 9 taken
        rw [nI_leI (by omega) (by omega)] at c9
        refine lv_iload_n hx hb dX4_all_24 rfl (lv_at hl 1 rfl) ?_
        have hfin : tt = l_sum (M 16) q := by rw [ht]; congr 1; omega
        exact W.iret (v := tt) hx hb hr (fun t ht hW => ⟨⟨tt, (), rfl, hfin, by rw [ht]; exact hP, va_K.moved hW.alike hK, hD⟩, hS.F ht⟩) hS.2.2 dX4_all_25
      · -- 9 on
        rw [nI_leI (by omega) (by omega)] at c9
        have c9 : i < q := by omega
        refine lv_iload_n hx hb dX4_all_12 rfl (lv_at hl 1 rfl) ?_
        refine lv_aload_n hx hb dX4_all_13 rfl (lv_at hl 3 rfl) ?_
        refine lv_iload_n hx hb dX4_all_14 rfl (lv_at hl 0 rfl) ?_
        refine zald hx hb hK hP 13 (n := 30) (f := (M 16)) rfl (i) rfl (by omega) (by decide) dX4_all_15 ?_
        refine lv_iadd hx hb dX4_all_16 ?_
        refine lv_istore_n (lv' := [(2, .int ((tt) + (M 16 (i)))), (3, .int (nI (i))), (0, .ref (a 0)), (1, .ref (a 13))]) hx hb dX4_all_17 rfl hl (by decide) rfl (fun ls hl => ?_)
        refine lv_iinc (v := nI (i + 1)) (lv' := [(3, .int (nI (i + 1))), (2, .int ((tt) + (M 16 (i)))), (0, .ref (a 0)), (1, .ref (a 13))]) hx hb dX4_all_18 hl (k := 1) rfl (nI_1 _) (by decide) rfl (fun ls hl => ?_)
        refine lv_goto (tgt := 4) hx hb dX4_all_21 (by decide) ?_
        exact ih4 (i + 1) ((tt) + (M 16 (i))) (by omega) (by rw [ht]; rfl) (by omega) _ _ hP hD hS _ (lv_sub hl [0, 1, 2, 3] rfl)
  exact loop4 _ (0) (0) (Nat.zero_le _) (rfl) (Nat.lt_succ_self _) _ _ hP hD hS _ (lv_sub hl [0, 1, 2, 3] rfl)
set_option maxHeartbeats 4000000 in
set_option maxRecDepth 100000 in
theorem c_X4_all_18 (l : Launch) (D : va_G) (cI cZ : ClassId) (a : Nat → Nat) (sz : Nat) (M : Nat → Nat → Int32) (q : Nat) (hMq : M 15 0 = nI q) (hq : q ≤ 30) : Met l yX4_all wsX4_all ({ frames := 0, cells := 0, slots := 0, locals := 0 } : Room) (va_Pc [.ref (a 0), .ref (a 15)] (PreW D cI cZ (wM a cI cZ M) sz)) (va_Qi (fun (r : Int32) (u : Unit) => r = l_sum (M 18) q) (fun (u : Unit) => PostW D cI cZ (va_A (wM a cI cZ M) sz) (wM a cI cZ M)) (va_A (wM a cI cZ M) sz)) 0 0 (va_A (wM a cI cZ M) sz) := by
  refine Met.ofW (cc := cX4_all) (maxL := 4) (ret := (some .int)) (by decide) rfl ?_
  intro p e s m args below meth c s₁ BB hml hv
  obtain ⟨rfl, hsz, hP, hK, hD0⟩ := hv
  have hx := BB.exec
  have hb := BB.bytes
  have hr := BB.returns
  have hts := atoms_spec (ws := wsX4_all) BB.pre
  have hown : s.vm.findClass RX4 = some m.cls := findClass_of_methodNamed BB.named
  have hlocks := BB.notSynchronized
  clear BB
  subst hsz
  have hD := hD0.self (sz := s.heap.size)
  clear hD0
  generalize hAe : va_A (wM a cI cZ M) s.heap.size = A at hD ⊢
  have hA : ∀ q : Nat, s.heap.size ≤ q → A q := fun q h => by rw [← hAe]; exact Or.inr h
  clear hAe
  have hS : va_S A s.heap s.heap [] := va_S.rf
  have hl := lv_entry ([.ref (a 0), .ref (a 15)]) (n := 4) (Nat.le_of_ble_eq_true rfl)
  rw [lg_entry_eq]
  generalize (lg_sl ([.ref (a 0), .ref (a 15)]) ++ List.replicate (4 - (lg_sl ([.ref (a 0), .ref (a 15)])).length) Slot.unset).toArray = ls at hl ⊢
  have hl : lv_has ls 4 [(0, .ref (a 0)), (1, .ref (a 15))] := hl
  generalize hHe : s.heap = H at hP
  have hS : va_S A s.heap H [] := by rw [← hHe]; exact va_S.rf
  clear hHe
  generalize hLe : ([] : List Loc) = locs at hS ⊢
  clear hLe
  refine lv_iconst (v := 0) hx hb dX4_all_0 (by decide) ?_
  refine lv_istore_n (lv' := [(2, .int (0)), (0, .ref (a 0)), (1, .ref (a 15))]) hx hb dX4_all_1 rfl hl (by decide) rfl (fun ls hl => ?_)
  refine lv_iconst (v := nI (0)) hx hb dX4_all_2 (by decide) ?_
  refine lv_istore_n (lv' := [(3, .int (nI (0))), (2, .int (0)), (0, .ref (a 0)), (1, .ref (a 15))]) hx hb dX4_all_3 rfl hl (by decide) rfl (fun ls hl => ?_)
  have loop4 : ∀ (fu : Nat) (i : Nat) (tt : Int32) (hin : i ≤ q) (ht : tt = l_sum (M 18) i) (hfu : q - i < fu) (H : Heap) (locs : List Loc) (hP : va_P D vwCl (wM a cI cZ M) H) (hD : va_D A (wM a cI cZ M)) (hS : va_S A s.heap H locs) (ls : Array Slot) (hl : lv_has ls 4 [(3, .int (nI (i))), (2, .int (tt)), (0, .ref (a 0)), (1, .ref (a 15))]), W p l e (headSpec wsX4_all ({ frames := 0, cells := 0, slots := 0, locals := 0 } : Room)).room s m ([.ref (a 0), .ref (a 15)] : List Value).toArray below meth c H locs 0 0 (MQ below (va_Qi (fun (r : Int32) (u : Unit) => r = l_sum (M 18) q) (fun (u : Unit) => PostW D cI cZ A (wM a cI cZ M)) A) ([.ref (a 0), .ref (a 15)] : List Value).toArray s 0 0 A) (F0 m 4 ls []) := by
    clear hP hD hS hl
    intro fu4
    induction fu4 with
    | zero => intro i tt hin ht hfu; exact absurd hfu (Nat.not_lt_zero _)
    | succ fu4 ih4 =>
      intro i tt hin ht hfu H locs hP hD hS ls hl
      refine lv_iload_n hx hb dX4_all_4 rfl (lv_at hl 0 rfl) ?_
      refine lv_aload_n hx hb dX4_all_5 rfl (lv_at hl 2 rfl) ?_
      refine va_get (D := D) (ci := 4) (v := .int (nI (q))) (C := RX4) (T := TX4) (N := 24) hx hb hts (fun w h => List.mem_cons_of_mem _ (List.mem_append_right _ h)) hown hK hP 0 rfl rfl 15 (by decide) (hts (.fieldLink RX4 82 "CashAllocatorModel" "receipts" "I") (by decide +kernel)) (fun _ h9 => h9) (congrArg (fun z => some (Value.int z)) hMq) dX4_all_6 ?_
      refine lv_icmp_ge (tgt := 24) hx hb dX4_all_9 (by decide) (fun c9 => ?_) (fun c9 => ?_)
      · -- 9 taken
        rw [nI_leI (by omega) (by omega)] at c9
        refine lv_iload_n hx hb dX4_all_24 rfl (lv_at hl 1 rfl) ?_
        have hfin : tt = l_sum (M 18) q := by rw [ht]; congr 1; omega
        exact W.iret (v := tt) hx hb hr (fun t ht hW => ⟨⟨tt, (), rfl, hfin, by rw [ht]; exact hP, va_K.moved hW.alike hK, hD⟩, hS.F ht⟩) hS.2.2 dX4_all_25
      · -- 9 on
        rw [nI_leI (by omega) (by omega)] at c9
        have c9 : i < q := by omega
        refine lv_iload_n hx hb dX4_all_12 rfl (lv_at hl 1 rfl) ?_
        refine lv_aload_n hx hb dX4_all_13 rfl (lv_at hl 3 rfl) ?_
        refine lv_iload_n hx hb dX4_all_14 rfl (lv_at hl 0 rfl) ?_
        refine zald hx hb hK hP 15 (n := 30) (f := (M 18)) rfl (i) rfl (by omega) (by decide) dX4_all_15 ?_
        refine lv_iadd hx hb dX4_all_16 ?_
        refine lv_istore_n (lv' := [(2, .int ((tt) + (M 18 (i)))), (3, .int (nI (i))), (0, .ref (a 0)), (1, .ref (a 15))]) hx hb dX4_all_17 rfl hl (by decide) rfl (fun ls hl => ?_)
        refine lv_iinc (v := nI (i + 1)) (lv' := [(3, .int (nI (i + 1))), (2, .int ((tt) + (M 18 (i)))), (0, .ref (a 0)), (1, .ref (a 15))]) hx hb dX4_all_18 hl (k := 1) rfl (nI_1 _) (by decide) rfl (fun ls hl => ?_)
        refine lv_goto (tgt := 4) hx hb dX4_all_21 (by decide) ?_
        exact ih4 (i + 1) ((tt) + (M 18 (i))) (by omega) (by rw [ht]; rfl) (by omega) _ _ hP hD hS _ (lv_sub hl [0, 1, 2, 3] rfl)
  exact loop4 _ (0) (0) (Nat.zero_le _) (rfl) (Nat.lt_succ_self _) _ _ hP hD hS _ (lv_sub hl [0, 1, 2, 3] rfl)
set_option maxHeartbeats 4000000 in
set_option maxRecDepth 100000 in
theorem c_X4_all_19 (l : Launch) (D : va_G) (cI cZ : ClassId) (a : Nat → Nat) (sz : Nat) (M : Nat → Nat → Int32) (q : Nat) (hMq : M 15 0 = nI q) (hq : q ≤ 30) : Met l yX4_all wsX4_all ({ frames := 0, cells := 0, slots := 0, locals := 0 } : Room) (va_Pc [.ref (a 0), .ref (a 16)] (PreW D cI cZ (wM a cI cZ M) sz)) (va_Qi (fun (r : Int32) (u : Unit) => r = l_sum (M 19) q) (fun (u : Unit) => PostW D cI cZ (va_A (wM a cI cZ M) sz) (wM a cI cZ M)) (va_A (wM a cI cZ M) sz)) 0 0 (va_A (wM a cI cZ M) sz) := by
  refine Met.ofW (cc := cX4_all) (maxL := 4) (ret := (some .int)) (by decide) rfl ?_
  intro p e s m args below meth c s₁ BB hml hv
  obtain ⟨rfl, hsz, hP, hK, hD0⟩ := hv
  have hx := BB.exec
  have hb := BB.bytes
  have hr := BB.returns
  have hts := atoms_spec (ws := wsX4_all) BB.pre
  have hown : s.vm.findClass RX4 = some m.cls := findClass_of_methodNamed BB.named
  have hlocks := BB.notSynchronized
  clear BB
  subst hsz
  have hD := hD0.self (sz := s.heap.size)
  clear hD0
  generalize hAe : va_A (wM a cI cZ M) s.heap.size = A at hD ⊢
  have hA : ∀ q : Nat, s.heap.size ≤ q → A q := fun q h => by rw [← hAe]; exact Or.inr h
  clear hAe
  have hS : va_S A s.heap s.heap [] := va_S.rf
  have hl := lv_entry ([.ref (a 0), .ref (a 16)]) (n := 4) (Nat.le_of_ble_eq_true rfl)
  rw [lg_entry_eq]
  generalize (lg_sl ([.ref (a 0), .ref (a 16)]) ++ List.replicate (4 - (lg_sl ([.ref (a 0), .ref (a 16)])).length) Slot.unset).toArray = ls at hl ⊢
  have hl : lv_has ls 4 [(0, .ref (a 0)), (1, .ref (a 16))] := hl
  generalize hHe : s.heap = H at hP
  have hS : va_S A s.heap H [] := by rw [← hHe]; exact va_S.rf
  clear hHe
  generalize hLe : ([] : List Loc) = locs at hS ⊢
  clear hLe
  refine lv_iconst (v := 0) hx hb dX4_all_0 (by decide) ?_
  refine lv_istore_n (lv' := [(2, .int (0)), (0, .ref (a 0)), (1, .ref (a 16))]) hx hb dX4_all_1 rfl hl (by decide) rfl (fun ls hl => ?_)
  refine lv_iconst (v := nI (0)) hx hb dX4_all_2 (by decide) ?_
  refine lv_istore_n (lv' := [(3, .int (nI (0))), (2, .int (0)), (0, .ref (a 0)), (1, .ref (a 16))]) hx hb dX4_all_3 rfl hl (by decide) rfl (fun ls hl => ?_)
  have loop4 : ∀ (fu : Nat) (i : Nat) (tt : Int32) (hin : i ≤ q) (ht : tt = l_sum (M 19) i) (hfu : q - i < fu) (H : Heap) (locs : List Loc) (hP : va_P D vwCl (wM a cI cZ M) H) (hD : va_D A (wM a cI cZ M)) (hS : va_S A s.heap H locs) (ls : Array Slot) (hl : lv_has ls 4 [(3, .int (nI (i))), (2, .int (tt)), (0, .ref (a 0)), (1, .ref (a 16))]), W p l e (headSpec wsX4_all ({ frames := 0, cells := 0, slots := 0, locals := 0 } : Room)).room s m ([.ref (a 0), .ref (a 16)] : List Value).toArray below meth c H locs 0 0 (MQ below (va_Qi (fun (r : Int32) (u : Unit) => r = l_sum (M 19) q) (fun (u : Unit) => PostW D cI cZ A (wM a cI cZ M)) A) ([.ref (a 0), .ref (a 16)] : List Value).toArray s 0 0 A) (F0 m 4 ls []) := by
    clear hP hD hS hl
    intro fu4
    induction fu4 with
    | zero => intro i tt hin ht hfu; exact absurd hfu (Nat.not_lt_zero _)
    | succ fu4 ih4 =>
      intro i tt hin ht hfu H locs hP hD hS ls hl
      refine lv_iload_n hx hb dX4_all_4 rfl (lv_at hl 0 rfl) ?_
      refine lv_aload_n hx hb dX4_all_5 rfl (lv_at hl 2 rfl) ?_
      refine va_get (D := D) (ci := 4) (v := .int (nI (q))) (C := RX4) (T := TX4) (N := 24) hx hb hts (fun w h => List.mem_cons_of_mem _ (List.mem_append_right _ h)) hown hK hP 0 rfl rfl 15 (by decide) (hts (.fieldLink RX4 82 "CashAllocatorModel" "receipts" "I") (by decide +kernel)) (fun _ h9 => h9) (congrArg (fun z => some (Value.int z)) hMq) dX4_all_6 ?_
      refine lv_icmp_ge (tgt := 24) hx hb dX4_all_9 (by decide) (fun c9 => ?_) (fun c9 => ?_)
      · -- 9 taken
        rw [nI_leI (by omega) (by omega)] at c9
        refine lv_iload_n hx hb dX4_all_24 rfl (lv_at hl 1 rfl) ?_
        have hfin : tt = l_sum (M 19) q := by rw [ht]; congr 1; omega
        exact W.iret (v := tt) hx hb hr (fun t ht hW => ⟨⟨tt, (), rfl, hfin, by rw [ht]; exact hP, va_K.moved hW.alike hK, hD⟩, hS.F ht⟩) hS.2.2 dX4_all_25
      · -- 9 on
        rw [nI_leI (by omega) (by omega)] at c9
        have c9 : i < q := by omega
        refine lv_iload_n hx hb dX4_all_12 rfl (lv_at hl 1 rfl) ?_
        refine lv_aload_n hx hb dX4_all_13 rfl (lv_at hl 3 rfl) ?_
        refine lv_iload_n hx hb dX4_all_14 rfl (lv_at hl 0 rfl) ?_
        refine zald hx hb hK hP 16 (n := 30) (f := (M 19)) rfl (i) rfl (by omega) (by decide) dX4_all_15 ?_
        refine lv_iadd hx hb dX4_all_16 ?_
        refine lv_istore_n (lv' := [(2, .int ((tt) + (M 19 (i)))), (3, .int (nI (i))), (0, .ref (a 0)), (1, .ref (a 16))]) hx hb dX4_all_17 rfl hl (by decide) rfl (fun ls hl => ?_)
        refine lv_iinc (v := nI (i + 1)) (lv' := [(3, .int (nI (i + 1))), (2, .int ((tt) + (M 19 (i)))), (0, .ref (a 0)), (1, .ref (a 16))]) hx hb dX4_all_18 hl (k := 1) rfl (nI_1 _) (by decide) rfl (fun ls hl => ?_)
        refine lv_goto (tgt := 4) hx hb dX4_all_21 (by decide) ?_
        exact ih4 (i + 1) ((tt) + (M 19 (i))) (by omega) (by rw [ht]; rfl) (by omega) _ _ hP hD hS _ (lv_sub hl [0, 1, 2, 3] rfl)
  exact loop4 _ (0) (0) (Nat.zero_le _) (rfl) (Nat.lt_succ_self _) _ _ hP hD hS _ (lv_sub hl [0, 1, 2, 3] rfl)
set_option maxHeartbeats 4000000 in
set_option maxRecDepth 100000 in
theorem c_X4_allBounced (l : Launch) (D : va_G) (cI cZ : ClassId) (a : Nat → Nat) (sz : Nat) (M : Nat → Nat → Int32) (q : Nat) (hMq : M 15 0 = nI q) (hq : q ≤ 30) : Met l yX4_allBounced wsX4_allBounced ({ frames := 0, cells := 0, slots := 0, locals := 0 } : Room) (va_Pc [.ref (a 0)] (PreW D cI cZ (wM a cI cZ M) sz)) (va_Qi (fun (r : Int32) (u : Unit) => r = mbsm M q) (fun (u : Unit) => PostW D cI cZ (va_A (wM a cI cZ M) sz) (wM a cI cZ M)) (va_A (wM a cI cZ M) sz)) 0 0 (va_A (wM a cI cZ M) sz) := by
  refine Met.ofW (cc := cX4_allBounced) (maxL := 3) (ret := (some .int)) (by decide) rfl ?_
  intro p e s m args below meth c s₁ BB hml hv
  obtain ⟨rfl, hsz, hP, hK, hD0⟩ := hv
  have hx := BB.exec
  have hb := BB.bytes
  have hr := BB.returns
  have hts := atoms_spec (ws := wsX4_allBounced) BB.pre
  have hown : s.vm.findClass RX4 = some m.cls := findClass_of_methodNamed BB.named
  have hlocks := BB.notSynchronized
  clear BB
  subst hsz
  have hD := hD0.self (sz := s.heap.size)
  clear hD0
  generalize hAe : va_A (wM a cI cZ M) s.heap.size = A at hD ⊢
  have hA : ∀ q : Nat, s.heap.size ≤ q → A q := fun q h => by rw [← hAe]; exact Or.inr h
  clear hAe
  have hS : va_S A s.heap s.heap [] := va_S.rf
  have hl := lv_entry ([.ref (a 0)]) (n := 3) (Nat.le_of_ble_eq_true rfl)
  rw [lg_entry_eq]
  generalize (lg_sl ([.ref (a 0)]) ++ List.replicate (3 - (lg_sl ([.ref (a 0)])).length) Slot.unset).toArray = ls at hl ⊢
  have hl : lv_has ls 3 [(0, .ref (a 0))] := hl
  generalize hHe : s.heap = H at hP
  have hS : va_S A s.heap H [] := by rw [← hHe]; exact va_S.rf
  clear hHe
  generalize hLe : ([] : List Loc) = locs at hS ⊢
  clear hLe
  refine lv_iconst (v := 0) hx hb dX4_allBounced_0 (by decide) ?_
  refine lv_istore_n (lv' := [(1, .int (0)), (0, .ref (a 0))]) hx hb dX4_allBounced_1 rfl hl (by decide) rfl (fun ls hl => ?_)
  refine lv_iconst (v := nI (0)) hx hb dX4_allBounced_2 (by decide) ?_
  refine lv_istore_n (lv' := [(2, .int (nI (0))), (1, .int (0)), (0, .ref (a 0))]) hx hb dX4_allBounced_3 rfl hl (by decide) rfl (fun ls hl => ?_)
  have loop4 : ∀ (fu : Nat) (i : Nat) (tt : Int32) (hin : i ≤ q) (ht : tt = mbsm M i) (hfu : q - i < fu) (H : Heap) (locs : List Loc) (hP : va_P D vwCl (wM a cI cZ M) H) (hD : va_D A (wM a cI cZ M)) (hS : va_S A s.heap H locs) (ls : Array Slot) (hl : lv_has ls 3 [(2, .int (nI (i))), (1, .int (tt)), (0, .ref (a 0))]), W p l e (headSpec wsX4_allBounced ({ frames := 0, cells := 0, slots := 0, locals := 0 } : Room)).room s m ([.ref (a 0)] : List Value).toArray below meth c H locs 0 0 (MQ below (va_Qi (fun (r : Int32) (u : Unit) => r = mbsm M q) (fun (u : Unit) => PostW D cI cZ A (wM a cI cZ M)) A) ([.ref (a 0)] : List Value).toArray s 0 0 A) (F0 m 4 ls []) := by
    clear hP hD hS hl
    intro fu4
    induction fu4 with
    | zero => intro i tt hin ht hfu; exact absurd hfu (Nat.not_lt_zero _)
    | succ fu4 ih4 =>
      intro i tt hin ht hfu H locs hP hD hS ls hl
      refine lv_iload_n hx hb dX4_allBounced_4 rfl (lv_at hl 0 rfl) ?_
      refine lv_aload_n hx hb dX4_allBounced_5 rfl (lv_at hl 2 rfl) ?_
      refine va_get (D := D) (ci := 4) (v := .int (nI (q))) (C := RX4) (T := TX4) (N := 24) hx hb hts (fun w h => List.mem_cons_of_mem _ (List.mem_append_right _ h)) hown hK hP 0 rfl rfl 15 (by decide) (hts (.fieldLink RX4 82 "CashAllocatorModel" "receipts" "I") (by decide +kernel)) (fun _ h9 => h9) (congrArg (fun z => some (Value.int z)) hMq) dX4_allBounced_6 ?_
      refine lv_icmp_ge (tgt := 40) hx hb dX4_allBounced_9 (by decide) (fun c9 => ?_) (fun c9 => ?_)
      · -- 9 taken
        rw [nI_leI (by omega) (by omega)] at c9
        refine lv_iload_n hx hb dX4_allBounced_40 rfl (lv_at hl 1 rfl) ?_
        have hfin : tt = mbsm M q := by rw [ht]; congr 1; omega
        exact W.iret (v := tt) hx hb hr (fun t ht hW => ⟨⟨tt, (), rfl, hfin, by rw [ht]; exact hP, va_K.moved hW.alike hK, hD⟩, hS.F ht⟩) hS.2.2 dX4_allBounced_41
      · -- 9 on
        rw [nI_leI (by omega) (by omega)] at c9
        have c9 : i < q := by omega
        refine lv_iload_n hx hb dX4_allBounced_12 rfl (lv_at hl 1 rfl) ?_
        refine lv_aload_n hx hb dX4_allBounced_13 rfl (lv_at hl 2 rfl) ?_
        refine va_get (D := D) (ci := 4) (v := .ref (a 17)) (C := RX4) (T := TX4) (N := 24) hx hb hts (fun w h => List.mem_cons_of_mem _ (List.mem_append_right _ h)) hown hK hP 0 rfl rfl 20 (by decide) (hts (.fieldLink RX4 58 "CashAllocatorModel" "isBounced" "[Z") (by decide +kernel)) (fun _ h9 => h9) rfl dX4_allBounced_14 ?_
        refine lv_iload_n hx hb dX4_allBounced_17 rfl (lv_at hl 0 rfl) ?_
        refine zbld hx hb hK hP 17 (n := 30) (f := (M 20)) rfl (i) rfl (by omega) (by decide) dX4_allBounced_18 ?_
        refine lv_if_eq (tgt := 31) hx hb dX4_allBounced_19 (by decide) (fun c19 => ?_) (fun c19 => ?_)
        · -- 19 taken
          refine lv_iconst (v := 0) hx hb dX4_allBounced_31 (by decide) ?_
          refine lv_iadd hx hb dX4_allBounced_32 ?_
          refine lv_istore_n (lv' := [(1, .int ((tt) + (0))), (2, .int (nI (i))), (0, .ref (a 0))]) hx hb dX4_allBounced_33 rfl hl (by decide) rfl (fun ls hl => ?_)
          refine lv_iinc (v := nI (i + 1)) (lv' := [(2, .int (nI (i + 1))), (1, .int ((tt) + (0))), (0, .ref (a 0))]) hx hb dX4_allBounced_34 hl (k := 1) rfl (nI_1 _) (by decide) rfl (fun ls hl => ?_)
          refine lv_goto (tgt := 4) hx hb dX4_allBounced_37 (by decide) ?_
          exact ih4 (i + 1) ((tt) + (0)) (by omega) (by rw [mbsm, ht]; first | rw [if_pos c19] | rw [if_neg c19]) (by omega) _ _ hP hD hS _ (lv_sub hl [0, 1, 2] rfl)
        · -- 19 on
          refine lv_aload_n hx hb dX4_allBounced_22 rfl (lv_at hl 2 rfl) ?_
          refine va_get (D := D) (ci := 4) (v := .ref (a 13)) (C := RX4) (T := TX4) (N := 24) hx hb hts (fun w h => List.mem_cons_of_mem _ (List.mem_append_right _ h)) hown hK hP 0 rfl rfl 16 (by decide) (hts (.fieldLink RX4 46 "CashAllocatorModel" "sums" "[I") (by decide +kernel)) (fun _ h9 => h9) rfl dX4_allBounced_23 ?_
          refine lv_iload_n hx hb dX4_allBounced_26 rfl (lv_at hl 0 rfl) ?_
          refine zald hx hb hK hP 13 (n := 30) (f := (M 16)) rfl (i) rfl (by omega) (by decide) dX4_allBounced_27 ?_
          refine lv_goto (tgt := 32) hx hb dX4_allBounced_28 (by decide) ?_
          refine lv_iadd hx hb dX4_allBounced_32 ?_
          refine lv_istore_n (lv' := [(1, .int ((tt) + (M 16 (i)))), (2, .int (nI (i))), (0, .ref (a 0))]) hx hb dX4_allBounced_33 rfl hl (by decide) rfl (fun ls hl => ?_)
          refine lv_iinc (v := nI (i + 1)) (lv' := [(2, .int (nI (i + 1))), (1, .int ((tt) + (M 16 (i)))), (0, .ref (a 0))]) hx hb dX4_allBounced_34 hl (k := 1) rfl (nI_1 _) (by decide) rfl (fun ls hl => ?_)
          refine lv_goto (tgt := 4) hx hb dX4_allBounced_37 (by decide) ?_
          exact ih4 (i + 1) ((tt) + (M 16 (i))) (by omega) (by rw [mbsm, ht]; first | rw [if_pos c19] | rw [if_neg c19]) (by omega) _ _ hP hD hS _ (lv_sub hl [0, 1, 2] rfl)
  exact loop4 _ (0) (0) (Nat.zero_le _) (rfl) (Nat.lt_succ_self _) _ _ hP hD hS _ (lv_sub hl [0, 1, 2] rfl)
set_option maxHeartbeats 4000000 in
set_option maxRecDepth 100000 in
theorem c_X4_noBill_0 (l : Launch) (D : va_G) (cI cZ : ClassId) (a : Nat → Nat) (sz : Nat) (M : Nat → Nat → Int32) (n : Nat) (vv : Int32) (hM : M 2 0 = nI n) (hn : n ≤ 40) (h1 : ¬ vv < 0 ∧ vv < nI n) : Met l yX4_noBill wsX4_noBill ({ frames := 2, cells := 0, slots := 0, locals := 43 } : Room) (va_Pc [.ref (a 0), .int (vv)] (PreW D cI cZ (wM a cI cZ M) sz)) (va_Qi (fun (r : Int32) (u : Nat → Nat → Int32) => r = 0 ∧ u = pt M 0 0 0) (fun (u : Nat → Nat → Int32) => PostW D cI cZ (va_A (wM a cI cZ M) sz) (wM a cI cZ u)) (va_A (wM a cI cZ M) sz)) 0 0 (va_A (wM a cI cZ M) sz) := by
  refine Met.ofW (cc := cX4_noBill) (maxL := 2) (ret := (some .boolean)) (by decide) rfl ?_
  intro p e s m args below meth c s₁ BB hml hv
  obtain ⟨rfl, hsz, hP, hK, hD0⟩ := hv
  have hx := BB.exec
  have hb := BB.bytes
  have hr := BB.returns
  have hts := atoms_spec (ws := wsX4_noBill) BB.pre
  have hown : s.vm.findClass RX4 = some m.cls := findClass_of_methodNamed BB.named
  have hlocks := BB.notSynchronized
  clear BB
  subst hsz
  have hD := hD0.self (sz := s.heap.size)
  clear hD0
  generalize hAe : va_A (wM a cI cZ M) s.heap.size = A at hD ⊢
  have hA : ∀ q : Nat, s.heap.size ≤ q → A q := fun q h => by rw [← hAe]; exact Or.inr h
  clear hAe
  have hS : va_S A s.heap s.heap [] := va_S.rf
  have hl := lv_entry ([.ref (a 0), .int (vv)]) (n := 2) (Nat.le_of_ble_eq_true rfl)
  rw [lg_entry_eq]
  generalize (lg_sl ([.ref (a 0), .int (vv)]) ++ List.replicate (2 - (lg_sl ([.ref (a 0), .int (vv)])).length) Slot.unset).toArray = ls at hl ⊢
  have hl : lv_has ls 2 [(0, .ref (a 0)), (1, .int (vv))] := hl
  generalize hHe : s.heap = H at hP
  have hS : va_S A s.heap H [] := by rw [← hHe]; exact va_S.rf
  clear hHe
  generalize hLe : ([] : List Loc) = locs at hS ⊢
  clear hLe
  refine lv_aload_n hx hb dX4_noBill_0 rfl (lv_at hl 0 rfl) ?_
  refine lv_aload_n hx hb dX4_noBill_1 rfl (lv_at hl 0 rfl) ?_
  refine lv_iload_n hx hb dX4_noBill_2 rfl (lv_at hl 1 rfl) ?_
  refine zcVi (ci := 4) (q0 := 0) (wf := (fun (u : Unit) => (wM a cI cZ M))) (List.range 21) ⟨hx, hb, hml, hown, hts⟩ (zwAll 21 (by decide) rfl hP hD hS hA) hK (c_X4_isBill l D cI cZ a H.size (M) (vv) (n) (by first | assumption | omega) (by first | assumption | omega)) (cwV 1 hts gX4_noBill_X4_isBill rfl rfl rfl (by decide +kernel) ⟨Nat.le_of_ble_eq_true rfl, Nat.le_of_ble_eq_true rfl⟩) rfl rfl (by decide) (fun _ => rfl) rfl hl.1 rfl (Nat.le_of_ble_eq_true rfl) dX4_noBill_3 ⟨Nat.le_of_ble_eq_true rfl, Nat.le_of_ble_eq_true rfl⟩ (fun r3 u H locs hw hP hD hS => ?_)
  subst hw
  refine lv_if_eq (tgt := 13) hx hb dX4_noBill_6 (by decide) (fun c6 => ?_) (fun c6 => ?_)
  · -- 6 taken
    have c6 := b2_0 c6
    exact absurd h1 c6
  · -- 6 on
    have c6 := b2_1 c6
    refine lv_iconst (v := 0) hx hb dX4_noBill_9 (by decide) ?_
    refine lv_goto (tgt := 14) hx hb dX4_noBill_10 (by decide) ?_
    refine zcVi (ci := 4) (q0 := 0) (wf := (fun (u : Nat → Nat → Int32) => (wM a cI cZ u))) (List.range 21) ⟨hx, hb, hml, hown, hts⟩ (zwAll 21 (by decide) rfl hP hD hS hA) hK (c_X4_refused_0 l D cI cZ a H.size (M) (0) rfl) (cwV 1 hts gX4_noBill_X4_refused rfl rfl rfl (by decide +kernel) ⟨Nat.le_of_ble_eq_true rfl, Nat.le_of_ble_eq_true rfl⟩) rfl rfl (by decide) (fun _ => rfl) rfl hl.1 rfl (Nat.le_of_ble_eq_true rfl) dX4_noBill_14 ⟨Nat.le_of_ble_eq_true rfl, Nat.le_of_ble_eq_true rfl⟩ (fun r14 u H locs hw hP hD hS => ?_)
    obtain ⟨rfl, rfl⟩ := hw
    have hP : va_P D vwCl (wM a cI cZ (pt (M) 0 0 0)) H := hP
    have hD : va_D A (wM a cI cZ (pt (M) 0 0 0)) := hD
    exact W.zret (ty := .boolean) (v := 0) hx hb hr (by decide) (fun t ht hW => ⟨⟨0, (pt (M) 0 0 0), rfl, ⟨rfl, rfl⟩, by rw [ht]; exact hP, va_K.moved hW.alike hK, hD⟩, hS.F ht⟩) hS.2.2 dX4_noBill_17
set_option maxHeartbeats 4000000 in
set_option maxRecDepth 100000 in
theorem c_X4_noBill_k (l : Launch) (D : va_G) (cI cZ : ClassId) (a : Nat → Nat) (sz : Nat) (M : Nat → Nat → Int32) (n : Nat) (vv : Int32) (hM : M 2 0 = nI n) (hn : n ≤ 40) (h1 : ¬ (¬ vv < 0 ∧ vv < nI n)) : Met l yX4_noBill wsX4_noBill ({ frames := 2, cells := 0, slots := 0, locals := 43 } : Room) (va_Pc [.ref (a 0), .int (vv)] (PreW D cI cZ (wM a cI cZ M) sz)) (va_Qi (fun (r : Int32) (u : Nat → Nat → Int32) => r = 1 ∧ u = pt M 0 0 1) (fun (u : Nat → Nat → Int32) => PostW D cI cZ (va_A (wM a cI cZ M) sz) (wM a cI cZ u)) (va_A (wM a cI cZ M) sz)) 0 0 (va_A (wM a cI cZ M) sz) := by
  refine Met.ofW (cc := cX4_noBill) (maxL := 2) (ret := (some .boolean)) (by decide) rfl ?_
  intro p e s m args below meth c s₁ BB hml hv
  obtain ⟨rfl, hsz, hP, hK, hD0⟩ := hv
  have hx := BB.exec
  have hb := BB.bytes
  have hr := BB.returns
  have hts := atoms_spec (ws := wsX4_noBill) BB.pre
  have hown : s.vm.findClass RX4 = some m.cls := findClass_of_methodNamed BB.named
  have hlocks := BB.notSynchronized
  clear BB
  subst hsz
  have hD := hD0.self (sz := s.heap.size)
  clear hD0
  generalize hAe : va_A (wM a cI cZ M) s.heap.size = A at hD ⊢
  have hA : ∀ q : Nat, s.heap.size ≤ q → A q := fun q h => by rw [← hAe]; exact Or.inr h
  clear hAe
  have hS : va_S A s.heap s.heap [] := va_S.rf
  have hl := lv_entry ([.ref (a 0), .int (vv)]) (n := 2) (Nat.le_of_ble_eq_true rfl)
  rw [lg_entry_eq]
  generalize (lg_sl ([.ref (a 0), .int (vv)]) ++ List.replicate (2 - (lg_sl ([.ref (a 0), .int (vv)])).length) Slot.unset).toArray = ls at hl ⊢
  have hl : lv_has ls 2 [(0, .ref (a 0)), (1, .int (vv))] := hl
  generalize hHe : s.heap = H at hP
  have hS : va_S A s.heap H [] := by rw [← hHe]; exact va_S.rf
  clear hHe
  generalize hLe : ([] : List Loc) = locs at hS ⊢
  clear hLe
  refine lv_aload_n hx hb dX4_noBill_0 rfl (lv_at hl 0 rfl) ?_
  refine lv_aload_n hx hb dX4_noBill_1 rfl (lv_at hl 0 rfl) ?_
  refine lv_iload_n hx hb dX4_noBill_2 rfl (lv_at hl 1 rfl) ?_
  refine zcVi (ci := 4) (q0 := 0) (wf := (fun (u : Unit) => (wM a cI cZ M))) (List.range 21) ⟨hx, hb, hml, hown, hts⟩ (zwAll 21 (by decide) rfl hP hD hS hA) hK (c_X4_isBill l D cI cZ a H.size (M) (vv) (n) (by first | assumption | omega) (by first | assumption | omega)) (cwV 1 hts gX4_noBill_X4_isBill rfl rfl rfl (by decide +kernel) ⟨Nat.le_of_ble_eq_true rfl, Nat.le_of_ble_eq_true rfl⟩) rfl rfl (by decide) (fun _ => rfl) rfl hl.1 rfl (Nat.le_of_ble_eq_true rfl) dX4_noBill_3 ⟨Nat.le_of_ble_eq_true rfl, Nat.le_of_ble_eq_true rfl⟩ (fun r3 u H locs hw hP hD hS => ?_)
  subst hw
  refine lv_if_eq (tgt := 13) hx hb dX4_noBill_6 (by decide) (fun c6 => ?_) (fun c6 => ?_)
  · -- 6 taken
    have c6 := b2_0 c6
    refine lv_iconst (v := 1) hx hb dX4_noBill_13 (by decide) ?_
    refine zcVi (ci := 4) (q0 := 0) (wf := (fun (u : Nat → Nat → Int32) => (wM a cI cZ u))) (List.range 21) ⟨hx, hb, hml, hown, hts⟩ (zwAll 21 (by decide) rfl hP hD hS hA) hK (c_X4_refused_k l D cI cZ a H.size (M) (1) (by decide)) (cwV 1 hts gX4_noBill_X4_refused rfl rfl rfl (by decide +kernel) ⟨Nat.le_of_ble_eq_true rfl, Nat.le_of_ble_eq_true rfl⟩) rfl rfl (by decide) (fun _ => rfl) rfl hl.1 rfl (Nat.le_of_ble_eq_true rfl) dX4_noBill_14 ⟨Nat.le_of_ble_eq_true rfl, Nat.le_of_ble_eq_true rfl⟩ (fun r14 u H locs hw hP hD hS => ?_)
    obtain ⟨rfl, rfl⟩ := hw
    have hP : va_P D vwCl (wM a cI cZ (pt (M) 0 0 (1))) H := hP
    have hD : va_D A (wM a cI cZ (pt (M) 0 0 (1))) := hD
    exact W.zret (ty := .boolean) (v := 1) hx hb hr (by decide) (fun t ht hW => ⟨⟨1, (pt (M) 0 0 (1)), rfl, ⟨rfl, rfl⟩, by rw [ht]; exact hP, va_K.moved hW.alike hK, hD⟩, hS.F ht⟩) hS.2.2 dX4_noBill_17
  · -- 6 on
    have c6 := b2_1 c6
    exact absurd c6 h1
set_option maxHeartbeats 4000000 in
set_option maxRecDepth 100000 in
theorem c_X4_noReceipt_0 (l : Launch) (D : va_G) (cI cZ : ClassId) (a : Nat → Nat) (sz : Nat) (M : Nat → Nat → Int32) (q : Nat) (vv : Int32) (hMq : M 15 0 = nI q) (hq : q ≤ 30) (h1 : ¬ vv < 0 ∧ vv < nI q) : Met l yX4_noReceipt wsX4_noReceipt ({ frames := 2, cells := 0, slots := 0, locals := 43 } : Room) (va_Pc [.ref (a 0), .int (vv)] (PreW D cI cZ (wM a cI cZ M) sz)) (va_Qi (fun (r : Int32) (u : Nat → Nat → Int32) => r = 0 ∧ u = pt M 0 0 0) (fun (u : Nat → Nat → Int32) => PostW D cI cZ (va_A (wM a cI cZ M) sz) (wM a cI cZ u)) (va_A (wM a cI cZ M) sz)) 0 0 (va_A (wM a cI cZ M) sz) := by
  refine Met.ofW (cc := cX4_noReceipt) (maxL := 2) (ret := (some .boolean)) (by decide) rfl ?_
  intro p e s m args below meth c s₁ BB hml hv
  obtain ⟨rfl, hsz, hP, hK, hD0⟩ := hv
  have hx := BB.exec
  have hb := BB.bytes
  have hr := BB.returns
  have hts := atoms_spec (ws := wsX4_noReceipt) BB.pre
  have hown : s.vm.findClass RX4 = some m.cls := findClass_of_methodNamed BB.named
  have hlocks := BB.notSynchronized
  clear BB
  subst hsz
  have hD := hD0.self (sz := s.heap.size)
  clear hD0
  generalize hAe : va_A (wM a cI cZ M) s.heap.size = A at hD ⊢
  have hA : ∀ q : Nat, s.heap.size ≤ q → A q := fun q h => by rw [← hAe]; exact Or.inr h
  clear hAe
  have hS : va_S A s.heap s.heap [] := va_S.rf
  have hl := lv_entry ([.ref (a 0), .int (vv)]) (n := 2) (Nat.le_of_ble_eq_true rfl)
  rw [lg_entry_eq]
  generalize (lg_sl ([.ref (a 0), .int (vv)]) ++ List.replicate (2 - (lg_sl ([.ref (a 0), .int (vv)])).length) Slot.unset).toArray = ls at hl ⊢
  have hl : lv_has ls 2 [(0, .ref (a 0)), (1, .int (vv))] := hl
  generalize hHe : s.heap = H at hP
  have hS : va_S A s.heap H [] := by rw [← hHe]; exact va_S.rf
  clear hHe
  generalize hLe : ([] : List Loc) = locs at hS ⊢
  clear hLe
  refine lv_aload_n hx hb dX4_noReceipt_0 rfl (lv_at hl 0 rfl) ?_
  refine lv_aload_n hx hb dX4_noReceipt_1 rfl (lv_at hl 0 rfl) ?_
  refine lv_iload_n hx hb dX4_noReceipt_2 rfl (lv_at hl 1 rfl) ?_
  refine zcVi (ci := 4) (q0 := 0) (wf := (fun (u : Unit) => (wM a cI cZ M))) (List.range 21) ⟨hx, hb, hml, hown, hts⟩ (zwAll 21 (by decide) rfl hP hD hS hA) hK (c_X4_isReceipt l D cI cZ a H.size (M) (vv) (q) (by first | assumption | omega) (by first | assumption | omega)) (cwV 1 hts gX4_noReceipt_X4_isReceipt rfl rfl rfl (by decide +kernel) ⟨Nat.le_of_ble_eq_true rfl, Nat.le_of_ble_eq_true rfl⟩) rfl rfl (by decide) (fun _ => rfl) rfl hl.1 rfl (Nat.le_of_ble_eq_true rfl) dX4_noReceipt_3 ⟨Nat.le_of_ble_eq_true rfl, Nat.le_of_ble_eq_true rfl⟩ (fun r3 u H locs hw hP hD hS => ?_)
  subst hw
  refine lv_if_eq (tgt := 13) hx hb dX4_noReceipt_6 (by decide) (fun c6 => ?_) (fun c6 => ?_)
  · -- 6 taken
    have c6 := b2_0 c6
    exact absurd h1 c6
  · -- 6 on
    have c6 := b2_1 c6
    refine lv_iconst (v := 0) hx hb dX4_noReceipt_9 (by decide) ?_
    refine lv_goto (tgt := 14) hx hb dX4_noReceipt_10 (by decide) ?_
    refine zcVi (ci := 4) (q0 := 0) (wf := (fun (u : Nat → Nat → Int32) => (wM a cI cZ u))) (List.range 21) ⟨hx, hb, hml, hown, hts⟩ (zwAll 21 (by decide) rfl hP hD hS hA) hK (c_X4_refused_0 l D cI cZ a H.size (M) (0) rfl) (cwV 1 hts gX4_noReceipt_X4_refused rfl rfl rfl (by decide +kernel) ⟨Nat.le_of_ble_eq_true rfl, Nat.le_of_ble_eq_true rfl⟩) rfl rfl (by decide) (fun _ => rfl) rfl hl.1 rfl (Nat.le_of_ble_eq_true rfl) dX4_noReceipt_14 ⟨Nat.le_of_ble_eq_true rfl, Nat.le_of_ble_eq_true rfl⟩ (fun r14 u H locs hw hP hD hS => ?_)
    obtain ⟨rfl, rfl⟩ := hw
    have hP : va_P D vwCl (wM a cI cZ (pt (M) 0 0 0)) H := hP
    have hD : va_D A (wM a cI cZ (pt (M) 0 0 0)) := hD
    exact W.zret (ty := .boolean) (v := 0) hx hb hr (by decide) (fun t ht hW => ⟨⟨0, (pt (M) 0 0 0), rfl, ⟨rfl, rfl⟩, by rw [ht]; exact hP, va_K.moved hW.alike hK, hD⟩, hS.F ht⟩) hS.2.2 dX4_noReceipt_17
set_option maxHeartbeats 4000000 in
set_option maxRecDepth 100000 in
theorem c_X4_noReceipt_k (l : Launch) (D : va_G) (cI cZ : ClassId) (a : Nat → Nat) (sz : Nat) (M : Nat → Nat → Int32) (q : Nat) (vv : Int32) (hMq : M 15 0 = nI q) (hq : q ≤ 30) (h1 : ¬ (¬ vv < 0 ∧ vv < nI q)) : Met l yX4_noReceipt wsX4_noReceipt ({ frames := 2, cells := 0, slots := 0, locals := 43 } : Room) (va_Pc [.ref (a 0), .int (vv)] (PreW D cI cZ (wM a cI cZ M) sz)) (va_Qi (fun (r : Int32) (u : Nat → Nat → Int32) => r = 1 ∧ u = pt M 0 0 1) (fun (u : Nat → Nat → Int32) => PostW D cI cZ (va_A (wM a cI cZ M) sz) (wM a cI cZ u)) (va_A (wM a cI cZ M) sz)) 0 0 (va_A (wM a cI cZ M) sz) := by
  refine Met.ofW (cc := cX4_noReceipt) (maxL := 2) (ret := (some .boolean)) (by decide) rfl ?_
  intro p e s m args below meth c s₁ BB hml hv
  obtain ⟨rfl, hsz, hP, hK, hD0⟩ := hv
  have hx := BB.exec
  have hb := BB.bytes
  have hr := BB.returns
  have hts := atoms_spec (ws := wsX4_noReceipt) BB.pre
  have hown : s.vm.findClass RX4 = some m.cls := findClass_of_methodNamed BB.named
  have hlocks := BB.notSynchronized
  clear BB
  subst hsz
  have hD := hD0.self (sz := s.heap.size)
  clear hD0
  generalize hAe : va_A (wM a cI cZ M) s.heap.size = A at hD ⊢
  have hA : ∀ q : Nat, s.heap.size ≤ q → A q := fun q h => by rw [← hAe]; exact Or.inr h
  clear hAe
  have hS : va_S A s.heap s.heap [] := va_S.rf
  have hl := lv_entry ([.ref (a 0), .int (vv)]) (n := 2) (Nat.le_of_ble_eq_true rfl)
  rw [lg_entry_eq]
  generalize (lg_sl ([.ref (a 0), .int (vv)]) ++ List.replicate (2 - (lg_sl ([.ref (a 0), .int (vv)])).length) Slot.unset).toArray = ls at hl ⊢
  have hl : lv_has ls 2 [(0, .ref (a 0)), (1, .int (vv))] := hl
  generalize hHe : s.heap = H at hP
  have hS : va_S A s.heap H [] := by rw [← hHe]; exact va_S.rf
  clear hHe
  generalize hLe : ([] : List Loc) = locs at hS ⊢
  clear hLe
  refine lv_aload_n hx hb dX4_noReceipt_0 rfl (lv_at hl 0 rfl) ?_
  refine lv_aload_n hx hb dX4_noReceipt_1 rfl (lv_at hl 0 rfl) ?_
  refine lv_iload_n hx hb dX4_noReceipt_2 rfl (lv_at hl 1 rfl) ?_
  refine zcVi (ci := 4) (q0 := 0) (wf := (fun (u : Unit) => (wM a cI cZ M))) (List.range 21) ⟨hx, hb, hml, hown, hts⟩ (zwAll 21 (by decide) rfl hP hD hS hA) hK (c_X4_isReceipt l D cI cZ a H.size (M) (vv) (q) (by first | assumption | omega) (by first | assumption | omega)) (cwV 1 hts gX4_noReceipt_X4_isReceipt rfl rfl rfl (by decide +kernel) ⟨Nat.le_of_ble_eq_true rfl, Nat.le_of_ble_eq_true rfl⟩) rfl rfl (by decide) (fun _ => rfl) rfl hl.1 rfl (Nat.le_of_ble_eq_true rfl) dX4_noReceipt_3 ⟨Nat.le_of_ble_eq_true rfl, Nat.le_of_ble_eq_true rfl⟩ (fun r3 u H locs hw hP hD hS => ?_)
  subst hw
  refine lv_if_eq (tgt := 13) hx hb dX4_noReceipt_6 (by decide) (fun c6 => ?_) (fun c6 => ?_)
  · -- 6 taken
    have c6 := b2_0 c6
    refine lv_iconst (v := 1) hx hb dX4_noReceipt_13 (by decide) ?_
    refine zcVi (ci := 4) (q0 := 0) (wf := (fun (u : Nat → Nat → Int32) => (wM a cI cZ u))) (List.range 21) ⟨hx, hb, hml, hown, hts⟩ (zwAll 21 (by decide) rfl hP hD hS hA) hK (c_X4_refused_k l D cI cZ a H.size (M) (1) (by decide)) (cwV 1 hts gX4_noReceipt_X4_refused rfl rfl rfl (by decide +kernel) ⟨Nat.le_of_ble_eq_true rfl, Nat.le_of_ble_eq_true rfl⟩) rfl rfl (by decide) (fun _ => rfl) rfl hl.1 rfl (Nat.le_of_ble_eq_true rfl) dX4_noReceipt_14 ⟨Nat.le_of_ble_eq_true rfl, Nat.le_of_ble_eq_true rfl⟩ (fun r14 u H locs hw hP hD hS => ?_)
    obtain ⟨rfl, rfl⟩ := hw
    have hP : va_P D vwCl (wM a cI cZ (pt (M) 0 0 (1))) H := hP
    have hD : va_D A (wM a cI cZ (pt (M) 0 0 (1))) := hD
    exact W.zret (ty := .boolean) (v := 1) hx hb hr (by decide) (fun t ht hW => ⟨⟨1, (pt (M) 0 0 (1)), rfl, ⟨rfl, rfl⟩, by rw [ht]; exact hP, va_K.moved hW.alike hK, hD⟩, hS.F ht⟩) hS.2.2 dX4_noReceipt_17
  · -- 6 on
    have c6 := b2_1 c6
    exact absurd c6 h1
