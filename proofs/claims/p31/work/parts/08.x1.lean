theorem dX1_init_0 : decode cX1_init 0 = .ok (.aload_n 0, 1) := by decide +kernel
theorem dX1_init_1 : decode cX1_init 1 = .ok (.invokespecial 3, 3) := by decide +kernel
theorem dX1_init_4 : decode cX1_init 4 = .ok (.aload_n 0, 1) := by decide +kernel
theorem dX1_init_5 : decode cX1_init 5 = .ok (.bipush 40, 2) := by decide +kernel
theorem dX1_init_7 : decode cX1_init 7 = .ok (.newarray .int, 2) := by decide +kernel
theorem dX1_init_9 : decode cX1_init 9 = .ok (.putfield 9, 3) := by decide +kernel
theorem dX1_init_12 : decode cX1_init 12 = .ok (.aload_n 0, 1) := by decide +kernel
theorem dX1_init_13 : decode cX1_init 13 = .ok (.bipush 40, 2) := by decide +kernel
theorem dX1_init_15 : decode cX1_init 15 = .ok (.newarray .int, 2) := by decide +kernel
theorem dX1_init_17 : decode cX1_init 17 = .ok (.putfield 15, 3) := by decide +kernel
theorem dX1_init_20 : decode cX1_init 20 = .ok (.aload_n 0, 1) := by decide +kernel
theorem dX1_init_21 : decode cX1_init 21 = .ok (.iconst 3, 1) := by decide +kernel
theorem dX1_init_22 : decode cX1_init 22 = .ok (.newarray .int, 2) := by decide +kernel
theorem dX1_init_24 : decode cX1_init 24 = .ok (.putfield 18, 3) := by decide +kernel
theorem dX1_init_27 : decode cX1_init 27 = .ok (.return_, 1) := by decide +kernel
theorem dX1_clear_0 : decode cX1_clear 0 = .ok (.aload_n 0, 1) := by decide +kernel
theorem dX1_clear_1 : decode cX1_clear 1 = .ok (.iconst 0, 1) := by decide +kernel
theorem dX1_clear_2 : decode cX1_clear 2 = .ok (.putfield 21, 3) := by decide +kernel
theorem dX1_clear_5 : decode cX1_clear 5 = .ok (.aload_n 0, 1) := by decide +kernel
theorem dX1_clear_6 : decode cX1_clear 6 = .ok (.getfield 18, 3) := by decide +kernel
theorem dX1_clear_9 : decode cX1_clear 9 = .ok (.iconst 0, 1) := by decide +kernel
theorem dX1_clear_10 : decode cX1_clear 10 = .ok (.iconst (-1), 1) := by decide +kernel
theorem dX1_clear_11 : decode cX1_clear 11 = .ok (.iastore, 1) := by decide +kernel
theorem dX1_clear_12 : decode cX1_clear 12 = .ok (.aload_n 0, 1) := by decide +kernel
theorem dX1_clear_13 : decode cX1_clear 13 = .ok (.getfield 18, 3) := by decide +kernel
theorem dX1_clear_16 : decode cX1_clear 16 = .ok (.iconst 1, 1) := by decide +kernel
theorem dX1_clear_17 : decode cX1_clear 17 = .ok (.iconst (-1), 1) := by decide +kernel
theorem dX1_clear_18 : decode cX1_clear 18 = .ok (.iastore, 1) := by decide +kernel
theorem dX1_clear_19 : decode cX1_clear 19 = .ok (.aload_n 0, 1) := by decide +kernel
theorem dX1_clear_20 : decode cX1_clear 20 = .ok (.getfield 18, 3) := by decide +kernel
theorem dX1_clear_23 : decode cX1_clear 23 = .ok (.iconst 2, 1) := by decide +kernel
theorem dX1_clear_24 : decode cX1_clear 24 = .ok (.iconst (-1), 1) := by decide +kernel
theorem dX1_clear_25 : decode cX1_clear 25 = .ok (.iastore, 1) := by decide +kernel
theorem dX1_clear_26 : decode cX1_clear 26 = .ok (.return_, 1) := by decide +kernel
theorem dX1_offer_0 : decode cX1_offer 0 = .ok (.aload_n 0, 1) := by decide +kernel
theorem dX1_offer_1 : decode cX1_offer 1 = .ok (.getfield 21, 3) := by decide +kernel
theorem dX1_offer_4 : decode cX1_offer 4 = .ok (.bipush 40, 2) := by decide +kernel
theorem dX1_offer_6 : decode cX1_offer 6 = .ok (.if_icmp .ge 33, 3) := by decide +kernel
theorem dX1_offer_9 : decode cX1_offer 9 = .ok (.aload_n 0, 1) := by decide +kernel
theorem dX1_offer_10 : decode cX1_offer 10 = .ok (.getfield 9, 3) := by decide +kernel
theorem dX1_offer_13 : decode cX1_offer 13 = .ok (.aload_n 0, 1) := by decide +kernel
theorem dX1_offer_14 : decode cX1_offer 14 = .ok (.getfield 21, 3) := by decide +kernel
theorem dX1_offer_17 : decode cX1_offer 17 = .ok (.iload_n 1, 1) := by decide +kernel
theorem dX1_offer_18 : decode cX1_offer 18 = .ok (.iastore, 1) := by decide +kernel
theorem dX1_offer_19 : decode cX1_offer 19 = .ok (.aload_n 0, 1) := by decide +kernel
theorem dX1_offer_20 : decode cX1_offer 20 = .ok (.getfield 15, 3) := by decide +kernel
theorem dX1_offer_23 : decode cX1_offer 23 = .ok (.aload_n 0, 1) := by decide +kernel
theorem dX1_offer_24 : decode cX1_offer 24 = .ok (.getfield 21, 3) := by decide +kernel
theorem dX1_offer_27 : decode cX1_offer 27 = .ok (.iload_n 2, 1) := by decide +kernel
theorem dX1_offer_28 : decode cX1_offer 28 = .ok (.iastore, 1) := by decide +kernel
theorem dX1_offer_29 : decode cX1_offer 29 = .ok (.aload_n 0, 1) := by decide +kernel
theorem dX1_offer_30 : decode cX1_offer 30 = .ok (.dup, 1) := by decide +kernel
theorem dX1_offer_31 : decode cX1_offer 31 = .ok (.getfield 21, 3) := by decide +kernel
theorem dX1_offer_34 : decode cX1_offer 34 = .ok (.iconst 1, 1) := by decide +kernel
theorem dX1_offer_35 : decode cX1_offer 35 = .ok (.iadd, 1) := by decide +kernel
theorem dX1_offer_36 : decode cX1_offer 36 = .ok (.putfield 21, 3) := by decide +kernel
theorem dX1_offer_39 : decode cX1_offer 39 = .ok (.return_, 1) := by decide +kernel
theorem dX1_choose_0 : decode cX1_choose 0 = .ok (.aload_n 0, 1) := by decide +kernel
theorem dX1_choose_1 : decode cX1_choose 1 = .ok (.iload_n 1, 1) := by decide +kernel
theorem dX1_choose_2 : decode cX1_choose 2 = .ok (.invokevirtual 25, 3) := by decide +kernel
theorem dX1_choose_5 : decode cX1_choose 5 = .ok (.ifCond .ne 16, 3) := by decide +kernel
theorem dX1_choose_8 : decode cX1_choose 8 = .ok (.aload_n 0, 1) := by decide +kernel
theorem dX1_choose_9 : decode cX1_choose 9 = .ok (.iload_n 1, 1) := by decide +kernel
theorem dX1_choose_10 : decode cX1_choose 10 = .ok (.invokevirtual 29, 3) := by decide +kernel
theorem dX1_choose_13 : decode cX1_choose 13 = .ok (.ifCond .ne 8, 3) := by decide +kernel
theorem dX1_choose_16 : decode cX1_choose 16 = .ok (.aload_n 0, 1) := by decide +kernel
theorem dX1_choose_17 : decode cX1_choose 17 = .ok (.iload_n 1, 1) := by decide +kernel
theorem dX1_choose_18 : decode cX1_choose 18 = .ok (.invokevirtual 32, 3) := by decide +kernel
theorem dX1_choose_21 : decode cX1_choose 21 = .ok (.return_, 1) := by decide +kernel
theorem dX1_chooseOne_0 : decode cX1_chooseOne 0 = .ok (.aload_n 0, 1) := by decide +kernel
theorem dX1_chooseOne_1 : decode cX1_chooseOne 1 = .ok (.iload_n 1, 1) := by decide +kernel
theorem dX1_chooseOne_2 : decode cX1_chooseOne 2 = .ok (.iconst 0, 1) := by decide +kernel
theorem dX1_chooseOne_3 : decode cX1_chooseOne 3 = .ok (.invokevirtual 36, 3) := by decide +kernel
theorem dX1_chooseOne_6 : decode cX1_chooseOne 6 = .ok (.istore_n 2, 1) := by decide +kernel
theorem dX1_chooseOne_7 : decode cX1_chooseOne 7 = .ok (.iload_n 2, 1) := by decide +kernel
theorem dX1_chooseOne_8 : decode cX1_chooseOne 8 = .ok (.iconst (-1), 1) := by decide +kernel
theorem dX1_chooseOne_9 : decode cX1_chooseOne 9 = .ok (.if_icmp .ne 5, 3) := by decide +kernel
theorem dX1_chooseOne_12 : decode cX1_chooseOne 12 = .ok (.iconst 0, 1) := by decide +kernel
theorem dX1_chooseOne_13 : decode cX1_chooseOne 13 = .ok (.ireturn, 1) := by decide +kernel
theorem dX1_chooseOne_14 : decode cX1_chooseOne 14 = .ok (.aload_n 0, 1) := by decide +kernel
theorem dX1_chooseOne_15 : decode cX1_chooseOne 15 = .ok (.getfield 18, 3) := by decide +kernel
theorem dX1_chooseOne_18 : decode cX1_chooseOne 18 = .ok (.iconst 0, 1) := by decide +kernel
theorem dX1_chooseOne_19 : decode cX1_chooseOne 19 = .ok (.aload_n 0, 1) := by decide +kernel
theorem dX1_chooseOne_20 : decode cX1_chooseOne 20 = .ok (.getfield 9, 3) := by decide +kernel
theorem dX1_chooseOne_23 : decode cX1_chooseOne 23 = .ok (.iload_n 2, 1) := by decide +kernel
theorem dX1_chooseOne_24 : decode cX1_chooseOne 24 = .ok (.iaload, 1) := by decide +kernel
theorem dX1_chooseOne_25 : decode cX1_chooseOne 25 = .ok (.iastore, 1) := by decide +kernel
theorem dX1_chooseOne_26 : decode cX1_chooseOne 26 = .ok (.iconst 1, 1) := by decide +kernel
theorem dX1_chooseOne_27 : decode cX1_chooseOne 27 = .ok (.ireturn, 1) := by decide +kernel
theorem dX1_chooseTwo_0 : decode cX1_chooseTwo 0 = .ok (.iconst 0, 1) := by decide +kernel
theorem dX1_chooseTwo_1 : decode cX1_chooseTwo 1 = .ok (.istore_n 2, 1) := by decide +kernel
theorem dX1_chooseTwo_2 : decode cX1_chooseTwo 2 = .ok (.iload_n 2, 1) := by decide +kernel
theorem dX1_chooseTwo_3 : decode cX1_chooseTwo 3 = .ok (.aload_n 0, 1) := by decide +kernel
theorem dX1_chooseTwo_4 : decode cX1_chooseTwo 4 = .ok (.getfield 21, 3) := by decide +kernel
theorem dX1_chooseTwo_7 : decode cX1_chooseTwo 7 = .ok (.if_icmp .ge 56, 3) := by decide +kernel
theorem dX1_chooseTwo_10 : decode cX1_chooseTwo 10 = .ok (.aload_n 0, 1) := by decide +kernel
theorem dX1_chooseTwo_11 : decode cX1_chooseTwo 11 = .ok (.iload_n 1, 1) := by decide +kernel
theorem dX1_chooseTwo_12 : decode cX1_chooseTwo 12 = .ok (.aload_n 0, 1) := by decide +kernel
theorem dX1_chooseTwo_13 : decode cX1_chooseTwo 13 = .ok (.getfield 15, 3) := by decide +kernel
theorem dX1_chooseTwo_16 : decode cX1_chooseTwo 16 = .ok (.iload_n 2, 1) := by decide +kernel
theorem dX1_chooseTwo_17 : decode cX1_chooseTwo 17 = .ok (.iaload, 1) := by decide +kernel
theorem dX1_chooseTwo_18 : decode cX1_chooseTwo 18 = .ok (.isub, 1) := by decide +kernel
theorem dX1_chooseTwo_19 : decode cX1_chooseTwo 19 = .ok (.iload_n 2, 1) := by decide +kernel
theorem dX1_chooseTwo_20 : decode cX1_chooseTwo 20 = .ok (.iconst 1, 1) := by decide +kernel
theorem dX1_chooseTwo_21 : decode cX1_chooseTwo 21 = .ok (.iadd, 1) := by decide +kernel
theorem dX1_chooseTwo_22 : decode cX1_chooseTwo 22 = .ok (.invokevirtual 36, 3) := by decide +kernel
theorem dX1_chooseTwo_25 : decode cX1_chooseTwo 25 = .ok (.istore_n 3, 1) := by decide +kernel
theorem dX1_chooseTwo_26 : decode cX1_chooseTwo 26 = .ok (.iload_n 3, 1) := by decide +kernel
theorem dX1_chooseTwo_27 : decode cX1_chooseTwo 27 = .ok (.iconst (-1), 1) := by decide +kernel
theorem dX1_chooseTwo_28 : decode cX1_chooseTwo 28 = .ok (.if_icmp .eq 29, 3) := by decide +kernel
theorem dX1_chooseTwo_31 : decode cX1_chooseTwo 31 = .ok (.aload_n 0, 1) := by decide +kernel
theorem dX1_chooseTwo_32 : decode cX1_chooseTwo 32 = .ok (.getfield 18, 3) := by decide +kernel
theorem dX1_chooseTwo_35 : decode cX1_chooseTwo 35 = .ok (.iconst 0, 1) := by decide +kernel
theorem dX1_chooseTwo_36 : decode cX1_chooseTwo 36 = .ok (.aload_n 0, 1) := by decide +kernel
theorem dX1_chooseTwo_37 : decode cX1_chooseTwo 37 = .ok (.getfield 9, 3) := by decide +kernel
theorem dX1_chooseTwo_40 : decode cX1_chooseTwo 40 = .ok (.iload_n 2, 1) := by decide +kernel
theorem dX1_chooseTwo_41 : decode cX1_chooseTwo 41 = .ok (.iaload, 1) := by decide +kernel
theorem dX1_chooseTwo_42 : decode cX1_chooseTwo 42 = .ok (.iastore, 1) := by decide +kernel
theorem dX1_chooseTwo_43 : decode cX1_chooseTwo 43 = .ok (.aload_n 0, 1) := by decide +kernel
theorem dX1_chooseTwo_44 : decode cX1_chooseTwo 44 = .ok (.getfield 18, 3) := by decide +kernel
theorem dX1_chooseTwo_47 : decode cX1_chooseTwo 47 = .ok (.iconst 1, 1) := by decide +kernel
theorem dX1_chooseTwo_48 : decode cX1_chooseTwo 48 = .ok (.aload_n 0, 1) := by decide +kernel
theorem dX1_chooseTwo_49 : decode cX1_chooseTwo 49 = .ok (.getfield 9, 3) := by decide +kernel
theorem dX1_chooseTwo_52 : decode cX1_chooseTwo 52 = .ok (.iload_n 3, 1) := by decide +kernel
theorem dX1_chooseTwo_53 : decode cX1_chooseTwo 53 = .ok (.iaload, 1) := by decide +kernel
theorem dX1_chooseTwo_54 : decode cX1_chooseTwo 54 = .ok (.iastore, 1) := by decide +kernel
theorem dX1_chooseTwo_55 : decode cX1_chooseTwo 55 = .ok (.iconst 1, 1) := by decide +kernel
theorem dX1_chooseTwo_56 : decode cX1_chooseTwo 56 = .ok (.ireturn, 1) := by decide +kernel
theorem dX1_chooseTwo_57 : decode cX1_chooseTwo 57 = .ok (.iinc 2 1, 3) := by decide +kernel
theorem dX1_chooseTwo_60 : decode cX1_chooseTwo 60 = .ok (.goto (-58), 3) := by decide +kernel
theorem dX1_chooseTwo_63 : decode cX1_chooseTwo 63 = .ok (.iconst 0, 1) := by decide +kernel
theorem dX1_chooseTwo_64 : decode cX1_chooseTwo 64 = .ok (.ireturn, 1) := by decide +kernel
theorem dX1_chooseThree_0 : decode cX1_chooseThree 0 = .ok (.iconst 0, 1) := by decide +kernel
theorem dX1_chooseThree_1 : decode cX1_chooseThree 1 = .ok (.istore_n 2, 1) := by decide +kernel
theorem dX1_chooseThree_2 : decode cX1_chooseThree 2 = .ok (.iload_n 2, 1) := by decide +kernel
theorem dX1_chooseThree_3 : decode cX1_chooseThree 3 = .ok (.aload_n 0, 1) := by decide +kernel
theorem dX1_chooseThree_4 : decode cX1_chooseThree 4 = .ok (.getfield 21, 3) := by decide +kernel
theorem dX1_chooseThree_7 : decode cX1_chooseThree 7 = .ok (.if_icmp .ge 95, 3) := by decide +kernel
theorem dX1_chooseThree_10 : decode cX1_chooseThree 10 = .ok (.iload_n 2, 1) := by decide +kernel
theorem dX1_chooseThree_11 : decode cX1_chooseThree 11 = .ok (.iconst 1, 1) := by decide +kernel
theorem dX1_chooseThree_12 : decode cX1_chooseThree 12 = .ok (.iadd, 1) := by decide +kernel
theorem dX1_chooseThree_13 : decode cX1_chooseThree 13 = .ok (.istore_n 3, 1) := by decide +kernel
theorem dX1_chooseThree_14 : decode cX1_chooseThree 14 = .ok (.iload_n 3, 1) := by decide +kernel
theorem dX1_chooseThree_15 : decode cX1_chooseThree 15 = .ok (.aload_n 0, 1) := by decide +kernel
theorem dX1_chooseThree_16 : decode cX1_chooseThree 16 = .ok (.getfield 21, 3) := by decide +kernel
theorem dX1_chooseThree_19 : decode cX1_chooseThree 19 = .ok (.if_icmp .ge 77, 3) := by decide +kernel
theorem dX1_chooseThree_22 : decode cX1_chooseThree 22 = .ok (.aload_n 0, 1) := by decide +kernel
theorem dX1_chooseThree_23 : decode cX1_chooseThree 23 = .ok (.iload_n 1, 1) := by decide +kernel
theorem dX1_chooseThree_24 : decode cX1_chooseThree 24 = .ok (.aload_n 0, 1) := by decide +kernel
theorem dX1_chooseThree_25 : decode cX1_chooseThree 25 = .ok (.getfield 15, 3) := by decide +kernel
theorem dX1_chooseThree_28 : decode cX1_chooseThree 28 = .ok (.iload_n 2, 1) := by decide +kernel
theorem dX1_chooseThree_29 : decode cX1_chooseThree 29 = .ok (.iaload, 1) := by decide +kernel
theorem dX1_chooseThree_30 : decode cX1_chooseThree 30 = .ok (.isub, 1) := by decide +kernel
theorem dX1_chooseThree_31 : decode cX1_chooseThree 31 = .ok (.aload_n 0, 1) := by decide +kernel
theorem dX1_chooseThree_32 : decode cX1_chooseThree 32 = .ok (.getfield 15, 3) := by decide +kernel
theorem dX1_chooseThree_35 : decode cX1_chooseThree 35 = .ok (.iload_n 3, 1) := by decide +kernel
theorem dX1_chooseThree_36 : decode cX1_chooseThree 36 = .ok (.iaload, 1) := by decide +kernel
theorem dX1_chooseThree_37 : decode cX1_chooseThree 37 = .ok (.isub, 1) := by decide +kernel
theorem dX1_chooseThree_38 : decode cX1_chooseThree 38 = .ok (.iload_n 3, 1) := by decide +kernel
theorem dX1_chooseThree_39 : decode cX1_chooseThree 39 = .ok (.iconst 1, 1) := by decide +kernel
theorem dX1_chooseThree_40 : decode cX1_chooseThree 40 = .ok (.iadd, 1) := by decide +kernel
theorem dX1_chooseThree_41 : decode cX1_chooseThree 41 = .ok (.invokevirtual 36, 3) := by decide +kernel
theorem dX1_chooseThree_44 : decode cX1_chooseThree 44 = .ok (.istore 4, 2) := by decide +kernel
theorem dX1_chooseThree_46 : decode cX1_chooseThree 46 = .ok (.iload 4, 2) := by decide +kernel
theorem dX1_chooseThree_48 : decode cX1_chooseThree 48 = .ok (.iconst (-1), 1) := by decide +kernel
theorem dX1_chooseThree_49 : decode cX1_chooseThree 49 = .ok (.if_icmp .eq 41, 3) := by decide +kernel
theorem dX1_chooseThree_52 : decode cX1_chooseThree 52 = .ok (.aload_n 0, 1) := by decide +kernel
theorem dX1_chooseThree_53 : decode cX1_chooseThree 53 = .ok (.getfield 18, 3) := by decide +kernel
theorem dX1_chooseThree_56 : decode cX1_chooseThree 56 = .ok (.iconst 0, 1) := by decide +kernel
theorem dX1_chooseThree_57 : decode cX1_chooseThree 57 = .ok (.aload_n 0, 1) := by decide +kernel
theorem dX1_chooseThree_58 : decode cX1_chooseThree 58 = .ok (.getfield 9, 3) := by decide +kernel
theorem dX1_chooseThree_61 : decode cX1_chooseThree 61 = .ok (.iload_n 2, 1) := by decide +kernel
theorem dX1_chooseThree_62 : decode cX1_chooseThree 62 = .ok (.iaload, 1) := by decide +kernel
theorem dX1_chooseThree_63 : decode cX1_chooseThree 63 = .ok (.iastore, 1) := by decide +kernel
theorem dX1_chooseThree_64 : decode cX1_chooseThree 64 = .ok (.aload_n 0, 1) := by decide +kernel
theorem dX1_chooseThree_65 : decode cX1_chooseThree 65 = .ok (.getfield 18, 3) := by decide +kernel
theorem dX1_chooseThree_68 : decode cX1_chooseThree 68 = .ok (.iconst 1, 1) := by decide +kernel
theorem dX1_chooseThree_69 : decode cX1_chooseThree 69 = .ok (.aload_n 0, 1) := by decide +kernel
theorem dX1_chooseThree_70 : decode cX1_chooseThree 70 = .ok (.getfield 9, 3) := by decide +kernel
theorem dX1_chooseThree_73 : decode cX1_chooseThree 73 = .ok (.iload_n 3, 1) := by decide +kernel
theorem dX1_chooseThree_74 : decode cX1_chooseThree 74 = .ok (.iaload, 1) := by decide +kernel
theorem dX1_chooseThree_75 : decode cX1_chooseThree 75 = .ok (.iastore, 1) := by decide +kernel
theorem dX1_chooseThree_76 : decode cX1_chooseThree 76 = .ok (.aload_n 0, 1) := by decide +kernel
theorem dX1_chooseThree_77 : decode cX1_chooseThree 77 = .ok (.getfield 18, 3) := by decide +kernel
theorem dX1_chooseThree_80 : decode cX1_chooseThree 80 = .ok (.iconst 2, 1) := by decide +kernel
theorem dX1_chooseThree_81 : decode cX1_chooseThree 81 = .ok (.aload_n 0, 1) := by decide +kernel
theorem dX1_chooseThree_82 : decode cX1_chooseThree 82 = .ok (.getfield 9, 3) := by decide +kernel
theorem dX1_chooseThree_85 : decode cX1_chooseThree 85 = .ok (.iload 4, 2) := by decide +kernel
theorem dX1_chooseThree_87 : decode cX1_chooseThree 87 = .ok (.iaload, 1) := by decide +kernel
theorem dX1_chooseThree_88 : decode cX1_chooseThree 88 = .ok (.iastore, 1) := by decide +kernel
theorem dX1_chooseThree_89 : decode cX1_chooseThree 89 = .ok (.return_, 1) := by decide +kernel
theorem dX1_chooseThree_90 : decode cX1_chooseThree 90 = .ok (.iinc 3 1, 3) := by decide +kernel
theorem dX1_chooseThree_93 : decode cX1_chooseThree 93 = .ok (.goto (-79), 3) := by decide +kernel
theorem dX1_chooseThree_96 : decode cX1_chooseThree 96 = .ok (.iinc 2 1, 3) := by decide +kernel
theorem dX1_chooseThree_99 : decode cX1_chooseThree 99 = .ok (.goto (-97), 3) := by decide +kernel
theorem dX1_chooseThree_102 : decode cX1_chooseThree 102 = .ok (.return_, 1) := by decide +kernel
theorem dX1_find_0 : decode cX1_find 0 = .ok (.iload_n 2, 1) := by decide +kernel
theorem dX1_find_1 : decode cX1_find 1 = .ok (.istore_n 3, 1) := by decide +kernel
theorem dX1_find_2 : decode cX1_find 2 = .ok (.iload_n 3, 1) := by decide +kernel
theorem dX1_find_3 : decode cX1_find 3 = .ok (.aload_n 0, 1) := by decide +kernel
theorem dX1_find_4 : decode cX1_find 4 = .ok (.getfield 21, 3) := by decide +kernel
theorem dX1_find_7 : decode cX1_find 7 = .ok (.if_icmp .ge 21, 3) := by decide +kernel
theorem dX1_find_10 : decode cX1_find 10 = .ok (.aload_n 0, 1) := by decide +kernel
theorem dX1_find_11 : decode cX1_find 11 = .ok (.getfield 15, 3) := by decide +kernel
theorem dX1_find_14 : decode cX1_find 14 = .ok (.iload_n 3, 1) := by decide +kernel
theorem dX1_find_15 : decode cX1_find 15 = .ok (.iaload, 1) := by decide +kernel
theorem dX1_find_16 : decode cX1_find 16 = .ok (.iload_n 1, 1) := by decide +kernel
theorem dX1_find_17 : decode cX1_find 17 = .ok (.if_icmp .ne 5, 3) := by decide +kernel
theorem dX1_find_20 : decode cX1_find 20 = .ok (.iload_n 3, 1) := by decide +kernel
theorem dX1_find_21 : decode cX1_find 21 = .ok (.ireturn, 1) := by decide +kernel
theorem dX1_find_22 : decode cX1_find 22 = .ok (.iinc 3 1, 3) := by decide +kernel
theorem dX1_find_25 : decode cX1_find 25 = .ok (.goto (-23), 3) := by decide +kernel
theorem dX1_find_28 : decode cX1_find 28 = .ok (.iconst (-1), 1) := by decide +kernel
theorem dX1_find_29 : decode cX1_find 29 = .ok (.ireturn, 1) := by decide +kernel

def oI : Option Nat → Int32
  | none => -1
  | some q => nI q
def fnd (f : Nat → Int32) (sm : Int32) : Nat → Nat → Option Nat
  | 0, _ => none
  | k + 1, i => if f i = sm then some i else fnd f sm k (i + 1)
theorem fnd_y {f : Nat → Int32} {sm : Int32} : ∀ {k i q : Nat}, fnd f sm k i = some q → i ≤ q ∧ q < i + k ∧ f q = sm ∧ ∀ j, i ≤ j → j < q → f j ≠ sm
  | 0, i, q, h => by cases h
  | k + 1, i, q, h => by
    rw [fnd] at h
    by_cases z : f i = sm
    · rw [if_pos z] at h
      cases h
      exact ⟨Nat.le_refl _, by omega, z, fun j h1 h2 => absurd h2 (by omega)⟩
    · rw [if_neg z] at h
      obtain ⟨h1, h2, h3, h4⟩ := fnd_y h
      refine ⟨by omega, by omega, h3, fun j g1 g2 => ?_⟩
      rcases Nat.lt_or_ge i j with w | w
      · exact h4 j w g2
      · have : j = i := by omega
        rw [this]; exact z
theorem fnd_n {f : Nat → Int32} {sm : Int32} : ∀ {k i : Nat}, fnd f sm k i = none → ∀ j, i ≤ j → j < i + k → f j ≠ sm
  | 0, i, _, j, h1, h2 => absurd h2 (by omega)
  | k + 1, i, h, j, h1, h2 => by
    rw [fnd] at h
    by_cases z : f i = sm
    · rw [if_pos z] at h; cases h
    · rw [if_neg z] at h
      rcases Nat.lt_or_ge i j with w | w
      · exact fnd_n h j w (by omega)
      · have : j = i := by omega
        rw [this]; exact z
theorem oI_y {o : Option Nat} (h : ¬ oI o = -1) : ∃ q, o = some q := by
  cases o with
  | none => exact absurd rfl h
  | some q => exact ⟨q, rfl⟩
theorem nI_m1 {q : Nat} (h : q < 2 ^ 31) : ¬ nI q = -1 := fun z => by
  have h1 : (nI q).toInt = (-1 : Int32).toInt := congrArg Int32.toInt z
  rw [nI_toInt h] at h1
  have h2 : (-1 : Int32).toInt = -1 := by decide
  omega
theorem oI_n' {o : Option Nat} (hq : ∀ q, o = some q → q < 2 ^ 31) (h : oI o = -1) : o = none := by
  cases o with
  | none => rfl
  | some q => exact absurd h (nI_m1 (hq q rfl))
theorem oI_n {f : Nat → Int32} {sm : Int32} {k i : Nat} (h : oI (fnd f sm k i) = -1) (hk : i + k ≤ 2000 := by omega) : fnd f sm k i = none :=
  oI_n' (fun q e => by have := (fnd_y e).2.1; omega) h
def oneE (E : Nat → Nat → Int32) (sm : Int32) (n : Nat) : Option Nat := fnd (E 1) sm n 0
def two (E : Nat → Nat → Int32) (sm : Int32) (n : Nat) : Nat → Nat → Option (Nat × Nat)
  | 0, _ => none
  | k + 1, i => match fnd (E 1) (sm - E 1 i) (n - (i + 1)) (i + 1) with
    | some q => some (i, q)
    | none => two E sm n k (i + 1)
def thm (E : Nat → Nat → Int32) (sm : Int32) (n i : Nat) : Nat → Nat → Option (Nat × Nat)
  | 0, _ => none
  | k + 1, j => match fnd (E 1) (sm - E 1 i - E 1 j) (n - (j + 1)) (j + 1) with
    | some q => some (j, q)
    | none => thm E sm n i k (j + 1)
def thr (E : Nat → Nat → Int32) (sm : Int32) (n : Nat) : Nat → Nat → Option (Nat × Nat × Nat)
  | 0, _ => none
  | k + 1, i => match thm E sm n i (n - (i + 1)) (i + 1) with
    | some x => some (i, x)
    | none => thr E sm n k (i + 1)
def oneS (E : Nat → Nat → Int32) : Option Nat → Nat → Nat → Int32
  | none => E
  | some q => pt E 2 0 (E 0 q)
def twoS (E : Nat → Nat → Int32) : Option (Nat × Nat) → Nat → Nat → Int32
  | none => E
  | some (i, j) => pt (pt E 2 0 (E 0 i)) 2 1 (E 0 j)
def thrS (E : Nat → Nat → Int32) : Option (Nat × Nat × Nat) → Nat → Nat → Int32
  | none => E
  | some (i, j, q) => pt (pt (pt E 2 0 (E 0 i)) 2 1 (E 0 j)) 2 2 (E 0 q)
def chE (E : Nat → Nat → Int32) (sm : Int32) (n : Nat) : Nat → Nat → Int32 :=
  if oneE E sm n ≠ none then oneS E (oneE E sm n) else if two E sm n n 0 ≠ none then twoS E (two E sm n n 0) else thrS E (thr E sm n n 0)
def clrE (E : Nat → Nat → Int32) : Nat → Nat → Int32 := pt (pt (pt (pt E 3 0 0) 2 0 (-1)) 2 1 (-1)) 2 2 (-1)
def offE (E : Nat → Nat → Int32) (n : Nat) (bl du : Int32) : Nat → Nat → Int32 := pt (pt (pt E 0 n bl) 1 n du) 3 0 (nI (n + 1))
set_option maxHeartbeats 4000000 in
set_option maxRecDepth 100000 in
theorem c_X1_clear (l : Launch) (D : va_G) (cI cZ : ClassId) (a : Nat → Nat) (sz : Nat) (E : Nat → Nat → Int32) : Met l yX1_clear wsX1_clear ({ frames := 0, cells := 0, slots := 0, locals := 0 } : Room) (va_Pc [.ref (a 22)] (PreW D cI cZ (wES a cI E) sz)) (va_Qv (fun (u : Nat → Nat → Int32) => u = clrE E) (fun (u : Nat → Nat → Int32) => PostW D cI cZ (va_A (wES a cI E) sz) (wES a cI u)) (va_A (wES a cI E) sz)) 0 0 (va_A (wES a cI E) sz) := by
  refine Met.ofW (cc := cX1_clear) (maxL := 1) (ret := none) (by decide) rfl ?_
  intro p e s m args below meth c s₁ BB hml hv
  obtain ⟨rfl, hsz, hP, hK, hD0⟩ := hv
  have hx := BB.exec
  have hb := BB.bytes
  have hr := BB.returns
  have hts := atoms_spec (ws := wsX1_clear) BB.pre
  have hown : s.vm.findClass RX1 = some m.cls := findClass_of_methodNamed BB.named
  have hlocks := BB.notSynchronized
  clear BB
  subst hsz
  have hD := hD0.self (sz := s.heap.size)
  clear hD0
  generalize hAe : va_A (wES a cI E) s.heap.size = A at hD ⊢
  have hA : ∀ q : Nat, s.heap.size ≤ q → A q := fun q h => by rw [← hAe]; exact Or.inr h
  clear hAe
  have hS : va_S A s.heap s.heap [] := va_S.rf
  have hl := lv_entry ([.ref (a 22)]) (n := 1) (Nat.le_of_ble_eq_true rfl)
  rw [lg_entry_eq]
  generalize (lg_sl ([.ref (a 22)]) ++ List.replicate (1 - (lg_sl ([.ref (a 22)])).length) Slot.unset).toArray = ls at hl ⊢
  have hl : lv_has ls 1 [(0, .ref (a 22))] := hl
  generalize hHe : s.heap = H at hP
  have hS : va_S A s.heap H [] := by rw [← hHe]; exact va_S.rf
  clear hHe
  generalize hLe : ([] : List Loc) = locs at hS ⊢
  clear hLe
  refine lv_aload_n hx hb dX1_clear_0 rfl (lv_at hl 0 rfl) ?_
  refine lv_iconst (v := 0) hx hb dX1_clear_1 (by decide) ?_
  refine va_put (D := D) (ci := 1) (v := .int (0)) (ty := .int) (C := RX1) (T := TX1) (N := 4) hx hb hts (fun w h => List.mem_cons_of_mem _ (List.mem_append_right _ h)) tyX1 tyX1_ok nmX1 hown hK hP hD hS 0 rfl rfl 3 (by decide) (hts (.fieldLink RX1 21 "CashAllocator$ExactSet" "count" "I") (by decide +kernel)) (fun _ h9 => h9) rfl (by decide +kernel) rfl rfl (Nat.le_of_ble_eq_true rfl) dX1_clear_2 (fun H locs hP hD hS => ?_)
  have hP : va_P D vwCl (wES a cI (pt E 3 (0) (0))) H := hP
  have hD : va_D A (wES a cI (pt E 3 (0) (0))) := hD
  refine lv_aload_n hx hb dX1_clear_5 rfl (lv_at hl 0 rfl) ?_
  refine va_get (D := D) (ci := 1) (v := .ref (a 25)) (C := RX1) (T := TX1) (N := 4) hx hb hts (fun w h => List.mem_cons_of_mem _ (List.mem_append_right _ h)) hown hK hP 0 rfl rfl 2 (by decide) (hts (.fieldLink RX1 18 "CashAllocator$ExactSet" "chosen" "[I") (by decide +kernel)) (fun _ h9 => h9) rfl dX1_clear_6 ?_
  refine lv_iconst (v := 0) hx hb dX1_clear_9 (by decide) ?_
  refine lv_iconst (v := (-1)) hx hb dX1_clear_10 (by decide) ?_
  refine zast hx hb hK hP hD hS 3 (n := 3) (f := (E 2)) rfl (0) rfl (by omega) (by decide) (wES a cI (pt (pt E 3 (0) (0)) 2 (0) ((-1)))) rfl dX1_clear_11 (fun H locs hP hD hS => ?_)
  refine lv_aload_n hx hb dX1_clear_12 rfl (lv_at hl 0 rfl) ?_
  refine va_get (D := D) (ci := 1) (v := .ref (a 25)) (C := RX1) (T := TX1) (N := 4) hx hb hts (fun w h => List.mem_cons_of_mem _ (List.mem_append_right _ h)) hown hK hP 0 rfl rfl 2 (by decide) (hts (.fieldLink RX1 18 "CashAllocator$ExactSet" "chosen" "[I") (by decide +kernel)) (fun _ h9 => h9) rfl dX1_clear_13 ?_
  refine lv_iconst (v := 1) hx hb dX1_clear_16 (by decide) ?_
  refine lv_iconst (v := (-1)) hx hb dX1_clear_17 (by decide) ?_
  refine zast hx hb hK hP hD hS 3 (n := 3) (f := ((pt (pt E 3 (0) (0)) 2 (0) ((-1))) 2)) rfl (1) rfl (by omega) (by decide) (wES a cI (pt (pt (pt E 3 (0) (0)) 2 (0) ((-1))) 2 (1) ((-1)))) rfl dX1_clear_18 (fun H locs hP hD hS => ?_)
  refine lv_aload_n hx hb dX1_clear_19 rfl (lv_at hl 0 rfl) ?_
  refine va_get (D := D) (ci := 1) (v := .ref (a 25)) (C := RX1) (T := TX1) (N := 4) hx hb hts (fun w h => List.mem_cons_of_mem _ (List.mem_append_right _ h)) hown hK hP 0 rfl rfl 2 (by decide) (hts (.fieldLink RX1 18 "CashAllocator$ExactSet" "chosen" "[I") (by decide +kernel)) (fun _ h9 => h9) rfl dX1_clear_20 ?_
  refine lv_iconst (v := 2) hx hb dX1_clear_23 (by decide) ?_
  refine lv_iconst (v := (-1)) hx hb dX1_clear_24 (by decide) ?_
  refine zast hx hb hK hP hD hS 3 (n := 3) (f := ((pt (pt (pt E 3 (0) (0)) 2 (0) ((-1))) 2 (1) ((-1))) 2)) rfl (2) rfl (by omega) (by decide) (wES a cI (pt (pt (pt (pt E 3 (0) (0)) 2 (0) ((-1))) 2 (1) ((-1))) 2 (2) ((-1)))) rfl dX1_clear_25 (fun H locs hP hD hS => ?_)
  exact W.vret hx hb hr (fun t ht hW => ⟨⟨(pt (pt (pt (pt E 3 (0) (0)) 2 (0) ((-1))) 2 (1) ((-1))) 2 (2) ((-1))), rfl, rfl, by rw [ht]; exact hP, va_K.moved hW.alike hK, hD⟩, hS.F ht⟩) hS.2.2 dX1_clear_26
set_option maxHeartbeats 4000000 in
set_option maxRecDepth 100000 in
theorem c_X1_offer (l : Launch) (D : va_G) (cI cZ : ClassId) (a : Nat → Nat) (sz : Nat) (E : Nat → Nat → Int32) (n : Nat) (bl : Int32) (du : Int32) (hE : E 3 0 = nI n) (hn : n < 40) : Met l yX1_offer wsX1_offer ({ frames := 0, cells := 0, slots := 0, locals := 0 } : Room) (va_Pc [.ref (a 22), .int (bl), .int (du)] (PreW D cI cZ (wES a cI E) sz)) (va_Qv (fun (u : Nat → Nat → Int32) => u = offE E n bl du) (fun (u : Nat → Nat → Int32) => PostW D cI cZ (va_A (wES a cI E) sz) (wES a cI u)) (va_A (wES a cI E) sz)) 0 0 (va_A (wES a cI E) sz) := by
  refine Met.ofW (cc := cX1_offer) (maxL := 3) (ret := none) (by decide) rfl ?_
  intro p e s m args below meth c s₁ BB hml hv
  obtain ⟨rfl, hsz, hP, hK, hD0⟩ := hv
  have hx := BB.exec
  have hb := BB.bytes
  have hr := BB.returns
  have hts := atoms_spec (ws := wsX1_offer) BB.pre
  have hown : s.vm.findClass RX1 = some m.cls := findClass_of_methodNamed BB.named
  have hlocks := BB.notSynchronized
  clear BB
  subst hsz
  have hD := hD0.self (sz := s.heap.size)
  clear hD0
  generalize hAe : va_A (wES a cI E) s.heap.size = A at hD ⊢
  have hA : ∀ q : Nat, s.heap.size ≤ q → A q := fun q h => by rw [← hAe]; exact Or.inr h
  clear hAe
  have hS : va_S A s.heap s.heap [] := va_S.rf
  have hl := lv_entry ([.ref (a 22), .int (bl), .int (du)]) (n := 3) (Nat.le_of_ble_eq_true rfl)
  rw [lg_entry_eq]
  generalize (lg_sl ([.ref (a 22), .int (bl), .int (du)]) ++ List.replicate (3 - (lg_sl ([.ref (a 22), .int (bl), .int (du)])).length) Slot.unset).toArray = ls at hl ⊢
  have hl : lv_has ls 3 [(0, .ref (a 22)), (1, .int (bl)), (2, .int (du))] := hl
  generalize hHe : s.heap = H at hP
  have hS : va_S A s.heap H [] := by rw [← hHe]; exact va_S.rf
  clear hHe
  generalize hLe : ([] : List Loc) = locs at hS ⊢
  clear hLe
  refine lv_aload_n hx hb dX1_offer_0 rfl (lv_at hl 0 rfl) ?_
  refine va_get (D := D) (ci := 1) (v := .int (nI (n))) (C := RX1) (T := TX1) (N := 4) hx hb hts (fun w h => List.mem_cons_of_mem _ (List.mem_append_right _ h)) hown hK hP 0 rfl rfl 3 (by decide) (hts (.fieldLink RX1 21 "CashAllocator$ExactSet" "count" "I") (by decide +kernel)) (fun _ h9 => h9) (congrArg (fun z => some (Value.int z)) hE) dX1_offer_1 ?_
  refine lv_bipush (v := nI (40)) hx hb dX1_offer_4 (by decide) ?_
  refine lv_icmp_ge (tgt := 39) hx hb dX1_offer_6 (by decide) (fun c6 => ?_) (fun c6 => ?_)
  · -- 6 taken
    rw [nI_leI (by omega) (by omega)] at c6
    exact absurd c6 (by omega)
  · -- 6 on
    rw [nI_leI (by omega) (by omega)] at c6
    refine lv_aload_n hx hb dX1_offer_9 rfl (lv_at hl 0 rfl) ?_
    refine va_get (D := D) (ci := 1) (v := .ref (a 23)) (C := RX1) (T := TX1) (N := 4) hx hb hts (fun w h => List.mem_cons_of_mem _ (List.mem_append_right _ h)) hown hK hP 0 rfl rfl 0 (by decide) (hts (.fieldLink RX1 9 "CashAllocator$ExactSet" "offered" "[I") (by decide +kernel)) (fun _ h9 => h9) rfl dX1_offer_10 ?_
    refine lv_aload_n hx hb dX1_offer_13 rfl (lv_at hl 0 rfl) ?_
    refine va_get (D := D) (ci := 1) (v := .int (nI (n))) (C := RX1) (T := TX1) (N := 4) hx hb hts (fun w h => List.mem_cons_of_mem _ (List.mem_append_right _ h)) hown hK hP 0 rfl rfl 3 (by decide) (hts (.fieldLink RX1 21 "CashAllocator$ExactSet" "count" "I") (by decide +kernel)) (fun _ h9 => h9) (congrArg (fun z => some (Value.int z)) hE) dX1_offer_14 ?_
    refine lv_iload_n hx hb dX1_offer_17 rfl (lv_at hl 1 rfl) ?_
    refine zast hx hb hK hP hD hS 1 (n := 40) (f := (E 0)) rfl (n) rfl (by omega) (by decide) (wES a cI (pt E 0 (n) (bl))) rfl dX1_offer_18 (fun H locs hP hD hS => ?_)
    refine lv_aload_n hx hb dX1_offer_19 rfl (lv_at hl 0 rfl) ?_
    refine va_get (D := D) (ci := 1) (v := .ref (a 24)) (C := RX1) (T := TX1) (N := 4) hx hb hts (fun w h => List.mem_cons_of_mem _ (List.mem_append_right _ h)) hown hK hP 0 rfl rfl 1 (by decide) (hts (.fieldLink RX1 15 "CashAllocator$ExactSet" "dues" "[I") (by decide +kernel)) (fun _ h9 => h9) rfl dX1_offer_20 ?_
    refine lv_aload_n hx hb dX1_offer_23 rfl (lv_at hl 0 rfl) ?_
    refine va_get (D := D) (ci := 1) (v := .int (nI (n))) (C := RX1) (T := TX1) (N := 4) hx hb hts (fun w h => List.mem_cons_of_mem _ (List.mem_append_right _ h)) hown hK hP 0 rfl rfl 3 (by decide) (hts (.fieldLink RX1 21 "CashAllocator$ExactSet" "count" "I") (by decide +kernel)) (fun _ h9 => h9) (congrArg (fun z => some (Value.int z)) hE) dX1_offer_24 ?_
    refine lv_iload_n hx hb dX1_offer_27 rfl (lv_at hl 2 rfl) ?_
    refine zast hx hb hK hP hD hS 2 (n := 40) (f := (E 1)) rfl (n) rfl (by omega) (by decide) (wES a cI (pt (pt E 0 (n) (bl)) 1 (n) (du))) rfl dX1_offer_28 (fun H locs hP hD hS => ?_)
    refine lv_aload_n hx hb dX1_offer_29 rfl (lv_at hl 0 rfl) ?_
    refine lv_dup hx hb dX1_offer_30 rfl ?_
    refine va_get (D := D) (ci := 1) (v := .int (nI (n))) (C := RX1) (T := TX1) (N := 4) hx hb hts (fun w h => List.mem_cons_of_mem _ (List.mem_append_right _ h)) hown hK hP 0 rfl rfl 3 (by decide) (hts (.fieldLink RX1 21 "CashAllocator$ExactSet" "count" "I") (by decide +kernel)) (fun _ h9 => h9) (congrArg (fun z => some (Value.int z)) hE) dX1_offer_31 ?_
    refine lv_iconst (v := 1) hx hb dX1_offer_34 (by decide) ?_
    refine lv_iadd hx hb dX1_offer_35 ?_
    rw [nI_1]
    refine va_put (D := D) (ci := 1) (v := .int (nI (n + 1))) (ty := .int) (C := RX1) (T := TX1) (N := 4) hx hb hts (fun w h => List.mem_cons_of_mem _ (List.mem_append_right _ h)) tyX1 tyX1_ok nmX1 hown hK hP hD hS 0 rfl rfl 3 (by decide) (hts (.fieldLink RX1 21 "CashAllocator$ExactSet" "count" "I") (by decide +kernel)) (fun _ h9 => h9) rfl (by decide +kernel) rfl rfl (Nat.le_of_ble_eq_true rfl) dX1_offer_36 (fun H locs hP hD hS => ?_)
    have hP : va_P D vwCl (wES a cI (pt (pt (pt E 0 (n) (bl)) 1 (n) (du)) 3 (0) (nI (n + 1)))) H := hP
    have hD : va_D A (wES a cI (pt (pt (pt E 0 (n) (bl)) 1 (n) (du)) 3 (0) (nI (n + 1)))) := hD
    exact W.vret hx hb hr (fun t ht hW => ⟨⟨(pt (pt (pt E 0 (n) (bl)) 1 (n) (du)) 3 (0) (nI (n + 1))), rfl, rfl, by rw [ht]; exact hP, va_K.moved hW.alike hK, hD⟩, hS.F ht⟩) hS.2.2 dX1_offer_39
set_option maxHeartbeats 4000000 in
set_option maxRecDepth 100000 in
theorem c_X1_find (l : Launch) (D : va_G) (cI cZ : ClassId) (a : Nat → Nat) (sz : Nat) (E : Nat → Nat → Int32) (sm : Int32) (n : Nat) (i0 : Nat) (hE : E 3 0 = nI n) (hn : n ≤ 40) (hi : i0 ≤ n) : Met l yX1_find wsX1_find ({ frames := 0, cells := 0, slots := 0, locals := 0 } : Room) (va_Pc [.ref (a 22), .int (sm), .int (nI (i0))] (PreW D cI cZ (wES a cI E) sz)) (va_Qi (fun (r : Int32) (u : Unit) => r = oI (fnd (E 1) sm (n - i0) i0)) (fun (u : Unit) => PostW D cI cZ (va_A (wES a cI E) sz) (wES a cI E)) (va_A (wES a cI E) sz)) 0 0 (va_A (wES a cI E) sz) := by
  refine Met.ofW (cc := cX1_find) (maxL := 4) (ret := (some .int)) (by decide) rfl ?_
  intro p e s m args below meth c s₁ BB hml hv
  obtain ⟨rfl, hsz, hP, hK, hD0⟩ := hv
  have hx := BB.exec
  have hb := BB.bytes
  have hr := BB.returns
  have hts := atoms_spec (ws := wsX1_find) BB.pre
  have hown : s.vm.findClass RX1 = some m.cls := findClass_of_methodNamed BB.named
  have hlocks := BB.notSynchronized
  clear BB
  subst hsz
  have hD := hD0.self (sz := s.heap.size)
  clear hD0
  generalize hAe : va_A (wES a cI E) s.heap.size = A at hD ⊢
  have hA : ∀ q : Nat, s.heap.size ≤ q → A q := fun q h => by rw [← hAe]; exact Or.inr h
  clear hAe
  have hS : va_S A s.heap s.heap [] := va_S.rf
  have hl := lv_entry ([.ref (a 22), .int (sm), .int (nI (i0))]) (n := 4) (Nat.le_of_ble_eq_true rfl)
  rw [lg_entry_eq]
  generalize (lg_sl ([.ref (a 22), .int (sm), .int (nI (i0))]) ++ List.replicate (4 - (lg_sl ([.ref (a 22), .int (sm), .int (nI (i0))])).length) Slot.unset).toArray = ls at hl ⊢
  have hl : lv_has ls 4 [(0, .ref (a 22)), (1, .int (sm)), (2, .int (nI (i0)))] := hl
  generalize hHe : s.heap = H at hP
  have hS : va_S A s.heap H [] := by rw [← hHe]; exact va_S.rf
  clear hHe
  generalize hLe : ([] : List Loc) = locs at hS ⊢
  clear hLe
  refine lv_iload_n hx hb dX1_find_0 rfl (lv_at hl 2 rfl) ?_
  refine lv_istore_n (lv' := [(3, .int (nI (i0))), (0, .ref (a 22)), (1, .int (sm)), (2, .int (nI (i0)))]) hx hb dX1_find_1 rfl hl (by decide) rfl (fun ls hl => ?_)
  have loop2 : ∀ (fu : Nat) (i : Nat) (hin : i ≤ n) (hg : fnd (E 1) sm (n - i0) i0 = fnd (E 1) sm (n - i) i) (hfu : n - i < fu) (H : Heap) (locs : List Loc) (hP : va_P D vwCl (wES a cI E) H) (hD : va_D A (wES a cI E)) (hS : va_S A s.heap H locs) (ls : Array Slot) (hl : lv_has ls 4 [(3, .int (nI (i))), (0, .ref (a 22)), (1, .int (sm)), (2, .int (nI (i0)))]), W p l e (headSpec wsX1_find ({ frames := 0, cells := 0, slots := 0, locals := 0 } : Room)).room s m ([.ref (a 22), .int (sm), .int (nI (i0))] : List Value).toArray below meth c H locs 0 0 (MQ below (va_Qi (fun (r : Int32) (u : Unit) => r = oI (fnd (E 1) sm (n - i0) i0)) (fun (u : Unit) => PostW D cI cZ A (wES a cI E)) A) ([.ref (a 22), .int (sm), .int (nI (i0))] : List Value).toArray s 0 0 A) (F0 m 2 ls []) := by
    clear hP hD hS hl
    intro fu2
    induction fu2 with
    | zero => intro i hin hg hfu; exact absurd hfu (Nat.not_lt_zero _)
    | succ fu2 ih2 =>
      intro i hin hg hfu H locs hP hD hS ls hl
      refine lv_iload_n hx hb dX1_find_2 rfl (lv_at hl 0 rfl) ?_
      refine lv_aload_n hx hb dX1_find_3 rfl (lv_at hl 1 rfl) ?_
      refine va_get (D := D) (ci := 1) (v := .int (nI (n))) (C := RX1) (T := TX1) (N := 4) hx hb hts (fun w h => List.mem_cons_of_mem _ (List.mem_append_right _ h)) hown hK hP 0 rfl rfl 3 (by decide) (hts (.fieldLink RX1 21 "CashAllocator$ExactSet" "count" "I") (by decide +kernel)) (fun _ h9 => h9) (congrArg (fun z => some (Value.int z)) hE) dX1_find_4 ?_
      refine lv_icmp_ge (tgt := 28) hx hb dX1_find_7 (by decide) (fun c7 => ?_) (fun c7 => ?_)
      · -- 7 taken
        rw [nI_leI (by omega) (by omega)] at c7
        refine lv_iconst (v := (-1)) hx hb dX1_find_28 (by decide) ?_
        have hfin : (-1 : Int32) = oI (fnd (E 1) sm (n - i0) i0) := by rw [hg, show n - i = 0 by omega]; rfl
        exact W.iret (v := (-1)) hx hb hr (fun t ht hW => ⟨⟨(-1), (), rfl, hfin, by rw [ht]; exact hP, va_K.moved hW.alike hK, hD⟩, hS.F ht⟩) hS.2.2 dX1_find_29
      · -- 7 on
        rw [nI_leI (by omega) (by omega)] at c7
        have c7 : i < n := by omega
        have hk : n - i = (n - (i + 1)) + 1 := by omega
        rw [hk] at hg
        refine lv_aload_n hx hb dX1_find_10 rfl (lv_at hl 1 rfl) ?_
        refine va_get (D := D) (ci := 1) (v := .ref (a 24)) (C := RX1) (T := TX1) (N := 4) hx hb hts (fun w h => List.mem_cons_of_mem _ (List.mem_append_right _ h)) hown hK hP 0 rfl rfl 1 (by decide) (hts (.fieldLink RX1 15 "CashAllocator$ExactSet" "dues" "[I") (by decide +kernel)) (fun _ h9 => h9) rfl dX1_find_11 ?_
        refine lv_iload_n hx hb dX1_find_14 rfl (lv_at hl 0 rfl) ?_
        refine zald hx hb hK hP 2 (n := 40) (f := (E 1)) rfl (i) rfl (by omega) (by decide) dX1_find_15 ?_
        refine lv_iload_n hx hb dX1_find_16 rfl (lv_at hl 2 rfl) ?_
        refine lv_icmp_ne (tgt := 22) hx hb dX1_find_17 (by decide) (fun c17 => ?_) (fun c17 => ?_)
        · -- 17 taken
          have hg2 : fnd (E 1) sm (n - i0) i0 = fnd (E 1) sm (n - (i + 1)) (i + 1) := by rw [hg, fnd, if_neg c17]
          refine lv_iinc (v := nI (i + 1)) (lv' := [(3, .int (nI (i + 1))), (0, .ref (a 22)), (1, .int (sm)), (2, .int (nI (i0)))]) hx hb dX1_find_22 hl (k := 0) rfl (nI_1 _) (by decide) rfl (fun ls hl => ?_)
          refine lv_goto (tgt := 2) hx hb dX1_find_25 (by decide) ?_
          exact ih2 (i + 1) (by omega) hg2 (by omega) _ _ hP hD hS _ (lv_sub hl [0, 1, 2, 3] rfl)
        · -- 17 on
          refine lv_iload_n hx hb dX1_find_20 rfl (lv_at hl 0 rfl) ?_
          have hfin : nI i = oI (fnd (E 1) sm (n - i0) i0) := by rw [hg, fnd, if_pos c17]; rfl
          exact W.iret (v := nI (i)) hx hb hr (fun t ht hW => ⟨⟨nI (i), (), rfl, hfin, by rw [ht]; exact hP, va_K.moved hW.alike hK, hD⟩, hS.F ht⟩) hS.2.2 dX1_find_21
  exact loop2 _ (i0) (hi) (rfl) (Nat.lt_succ_self _) _ _ hP hD hS _ (lv_sub hl [0, 1, 2, 3] rfl)
set_option maxHeartbeats 4000000 in
set_option maxRecDepth 100000 in
theorem c_X1_chooseOne (l : Launch) (D : va_G) (cI cZ : ClassId) (a : Nat → Nat) (sz : Nat) (E : Nat → Nat → Int32) (sm : Int32) (n : Nat) (hE : E 3 0 = nI n) (hn : n ≤ 40) : Met l yX1_chooseOne wsX1_chooseOne ({ frames := 1, cells := 0, slots := 0, locals := 23 } : Room) (va_Pc [.ref (a 22), .int (sm)] (PreW D cI cZ (wES a cI E) sz)) (va_Qi (fun (r : Int32) (u : Nat → Nat → Int32) => r = b2 (oneE E sm n ≠ none) ∧ u = oneS E (oneE E sm n)) (fun (u : Nat → Nat → Int32) => PostW D cI cZ (va_A (wES a cI E) sz) (wES a cI u)) (va_A (wES a cI E) sz)) 0 0 (va_A (wES a cI E) sz) := by
  refine Met.ofW (cc := cX1_chooseOne) (maxL := 3) (ret := (some .boolean)) (by decide) rfl ?_
  intro p e s m args below meth c s₁ BB hml hv
  obtain ⟨rfl, hsz, hP, hK, hD0⟩ := hv
  have hx := BB.exec
  have hb := BB.bytes
  have hr := BB.returns
  have hts := atoms_spec (ws := wsX1_chooseOne) BB.pre
  have hown : s.vm.findClass RX1 = some m.cls := findClass_of_methodNamed BB.named
  have hlocks := BB.notSynchronized
  clear BB
  subst hsz
  have hD := hD0.self (sz := s.heap.size)
  clear hD0
  generalize hAe : va_A (wES a cI E) s.heap.size = A at hD ⊢
  have hA : ∀ q : Nat, s.heap.size ≤ q → A q := fun q h => by rw [← hAe]; exact Or.inr h
  clear hAe
  have hS : va_S A s.heap s.heap [] := va_S.rf
  have hl := lv_entry ([.ref (a 22), .int (sm)]) (n := 3) (Nat.le_of_ble_eq_true rfl)
  rw [lg_entry_eq]
  generalize (lg_sl ([.ref (a 22), .int (sm)]) ++ List.replicate (3 - (lg_sl ([.ref (a 22), .int (sm)])).length) Slot.unset).toArray = ls at hl ⊢
  have hl : lv_has ls 3 [(0, .ref (a 22)), (1, .int (sm))] := hl
  generalize hHe : s.heap = H at hP
  have hS : va_S A s.heap H [] := by rw [← hHe]; exact va_S.rf
  clear hHe
  generalize hLe : ([] : List Loc) = locs at hS ⊢
  clear hLe
  refine lv_aload_n hx hb dX1_chooseOne_0 rfl (lv_at hl 0 rfl) ?_
  refine lv_iload_n hx hb dX1_chooseOne_1 rfl (lv_at hl 1 rfl) ?_
  refine lv_iconst (v := nI (0)) hx hb dX1_chooseOne_2 (by decide) ?_
  refine zcVi (ci := 1) (q0 := 0) (wf := (fun (u : Unit) => (wES a cI E))) (List.range 4) ⟨hx, hb, hml, hown, hts⟩ (zwAll 4 (by decide) rfl hP hD hS hA) hK (c_X1_find l D cI cZ a H.size (E) (sm) (n) (0) (by first | assumption | omega) (by first | assumption | omega) (by first | assumption | omega)) (cwV 2 hts gX1_chooseOne_X1_find rfl rfl rfl (by decide +kernel) ⟨Nat.le_of_ble_eq_true rfl, Nat.le_of_ble_eq_true rfl⟩) rfl rfl (by decide) (fun _ => rfl) rfl hl.1 rfl (Nat.le_of_ble_eq_true rfl) dX1_chooseOne_3 ⟨Nat.le_of_ble_eq_true rfl, Nat.le_of_ble_eq_true rfl⟩ (fun r3 u H locs hw hP hD hS => ?_)
  subst hw
  refine lv_istore_n (lv' := [(2, .int (oI (fnd ((E) 1) (sm) (n - (0)) (0)))), (0, .ref (a 22)), (1, .int (sm))]) hx hb dX1_chooseOne_6 rfl hl (by decide) rfl (fun ls hl => ?_)
  refine lv_iload_n hx hb dX1_chooseOne_7 rfl (lv_at hl 0 rfl) ?_
  refine lv_iconst (v := (-1)) hx hb dX1_chooseOne_8 (by decide) ?_
  refine lv_icmp_ne (tgt := 14) hx hb dX1_chooseOne_9 (by decide) (fun c9 => ?_) (fun c9 => ?_)
  · -- 9 taken
    obtain ⟨q, hq⟩ := oI_y c9
    have gq := fnd_y hq
    rw [hq] at hl
    have hl : lv_has ls 3 [(2, .int (nI (q))), (0, .ref (a 22)), (1, .int (sm))] := hl
    refine lv_aload_n hx hb dX1_chooseOne_14 rfl (lv_at hl 1 rfl) ?_
    refine va_get (D := D) (ci := 1) (v := .ref (a 25)) (C := RX1) (T := TX1) (N := 4) hx hb hts (fun w h => List.mem_cons_of_mem _ (List.mem_append_right _ h)) hown hK hP 0 rfl rfl 2 (by decide) (hts (.fieldLink RX1 18 "CashAllocator$ExactSet" "chosen" "[I") (by decide +kernel)) (fun _ h9 => h9) rfl dX1_chooseOne_15 ?_
    refine lv_iconst (v := 0) hx hb dX1_chooseOne_18 (by decide) ?_
    refine lv_aload_n hx hb dX1_chooseOne_19 rfl (lv_at hl 1 rfl) ?_
    refine va_get (D := D) (ci := 1) (v := .ref (a 23)) (C := RX1) (T := TX1) (N := 4) hx hb hts (fun w h => List.mem_cons_of_mem _ (List.mem_append_right _ h)) hown hK hP 0 rfl rfl 0 (by decide) (hts (.fieldLink RX1 9 "CashAllocator$ExactSet" "offered" "[I") (by decide +kernel)) (fun _ h9 => h9) rfl dX1_chooseOne_20 ?_
    refine lv_iload_n hx hb dX1_chooseOne_23 rfl (lv_at hl 0 rfl) ?_
    refine zald hx hb hK hP 1 (n := 40) (f := (E 0)) rfl (q) rfl (by omega) (by decide) dX1_chooseOne_24 ?_
    refine zast hx hb hK hP hD hS 3 (n := 3) (f := (E 2)) rfl (0) rfl (by omega) (by decide) (wES a cI (pt E 2 (0) (E 0 (q)))) rfl dX1_chooseOne_25 (fun H locs hP hD hS => ?_)
    refine lv_iconst (v := 1) hx hb dX1_chooseOne_26 (by decide) ?_
    exact W.zret (ty := .boolean) (v := 1) hx hb hr (by decide) (fun t ht hW => ⟨⟨1, (pt E 2 (0) (E 0 (q))), rfl, ⟨by rw [show oneE E sm n = some q from hq]; rfl, by rw [show oneE E sm n = some q from hq]; rfl⟩, by rw [ht]; exact hP, va_K.moved hW.alike hK, hD⟩, hS.F ht⟩) hS.2.2 dX1_chooseOne_27
  · -- 9 on
    have hf : oneE E sm n = none := oI_n c9
    refine lv_iconst (v := 0) hx hb dX1_chooseOne_12 (by decide) ?_
    exact W.zret (ty := .boolean) (v := 0) hx hb hr (by decide) (fun t ht hW => ⟨⟨0, E, rfl, ⟨by rw [hf]; rfl, by rw [hf]; rfl⟩, by rw [ht]; exact hP, va_K.moved hW.alike hK, hD⟩, hS.F ht⟩) hS.2.2 dX1_chooseOne_13
set_option maxHeartbeats 4000000 in
set_option maxRecDepth 100000 in
theorem c_X1_chooseTwo (l : Launch) (D : va_G) (cI cZ : ClassId) (a : Nat → Nat) (sz : Nat) (E : Nat → Nat → Int32) (sm : Int32) (n : Nat) (hE : E 3 0 = nI n) (hn : n ≤ 40) : Met l yX1_chooseTwo wsX1_chooseTwo ({ frames := 1, cells := 0, slots := 0, locals := 23 } : Room) (va_Pc [.ref (a 22), .int (sm)] (PreW D cI cZ (wES a cI E) sz)) (va_Qi (fun (r : Int32) (u : Nat → Nat → Int32) => r = b2 (two E sm n n 0 ≠ none) ∧ u = twoS E (two E sm n n 0)) (fun (u : Nat → Nat → Int32) => PostW D cI cZ (va_A (wES a cI E) sz) (wES a cI u)) (va_A (wES a cI E) sz)) 0 0 (va_A (wES a cI E) sz) := by
  refine Met.ofW (cc := cX1_chooseTwo) (maxL := 4) (ret := (some .boolean)) (by decide) rfl ?_
  intro p e s m args below meth c s₁ BB hml hv
  obtain ⟨rfl, hsz, hP, hK, hD0⟩ := hv
  have hx := BB.exec
  have hb := BB.bytes
  have hr := BB.returns
  have hts := atoms_spec (ws := wsX1_chooseTwo) BB.pre
  have hown : s.vm.findClass RX1 = some m.cls := findClass_of_methodNamed BB.named
  have hlocks := BB.notSynchronized
  clear BB
  subst hsz
  have hD := hD0.self (sz := s.heap.size)
  clear hD0
  generalize hAe : va_A (wES a cI E) s.heap.size = A at hD ⊢
  have hA : ∀ q : Nat, s.heap.size ≤ q → A q := fun q h => by rw [← hAe]; exact Or.inr h
  clear hAe
  have hS : va_S A s.heap s.heap [] := va_S.rf
  have hl := lv_entry ([.ref (a 22), .int (sm)]) (n := 4) (Nat.le_of_ble_eq_true rfl)
  rw [lg_entry_eq]
  generalize (lg_sl ([.ref (a 22), .int (sm)]) ++ List.replicate (4 - (lg_sl ([.ref (a 22), .int (sm)])).length) Slot.unset).toArray = ls at hl ⊢
  have hl : lv_has ls 4 [(0, .ref (a 22)), (1, .int (sm))] := hl
  generalize hHe : s.heap = H at hP
  have hS : va_S A s.heap H [] := by rw [← hHe]; exact va_S.rf
  clear hHe
  generalize hLe : ([] : List Loc) = locs at hS ⊢
  clear hLe
  refine lv_iconst (v := nI (0)) hx hb dX1_chooseTwo_0 (by decide) ?_
  refine lv_istore_n (lv' := [(2, .int (nI (0))), (0, .ref (a 22)), (1, .int (sm))]) hx hb dX1_chooseTwo_1 rfl hl (by decide) rfl (fun ls hl => ?_)
  have loop2 : ∀ (fu : Nat) (i : Nat) (hin : i ≤ n) (hg : two E sm n n 0 = two E sm n (n - i) i) (hfu : n - i < fu) (H : Heap) (locs : List Loc) (hP : va_P D vwCl (wES a cI E) H) (hD : va_D A (wES a cI E)) (hS : va_S A s.heap H locs) (ls : Array Slot) (hl : lv_has ls 4 [(2, .int (nI (i))), (0, .ref (a 22)), (1, .int (sm))]), W p l e (headSpec wsX1_chooseTwo ({ frames := 1, cells := 0, slots := 0, locals := 23 } : Room)).room s m ([.ref (a 22), .int (sm)] : List Value).toArray below meth c H locs 0 0 (MQ below (va_Qi (fun (r : Int32) (u : Nat → Nat → Int32) => r = b2 (two E sm n n 0 ≠ none) ∧ u = twoS E (two E sm n n 0)) (fun (u : Nat → Nat → Int32) => PostW D cI cZ A (wES a cI u)) A) ([.ref (a 22), .int (sm)] : List Value).toArray s 0 0 A) (F0 m 2 ls []) := by
    clear hP hD hS hl
    intro fu2
    induction fu2 with
    | zero => intro i hin hg hfu; exact absurd hfu (Nat.not_lt_zero _)
    | succ fu2 ih2 =>
      intro i hin hg hfu H locs hP hD hS ls hl
      refine lv_iload_n hx hb dX1_chooseTwo_2 rfl (lv_at hl 0 rfl) ?_
      refine lv_aload_n hx hb dX1_chooseTwo_3 rfl (lv_at hl 1 rfl) ?_
      refine va_get (D := D) (ci := 1) (v := .int (nI (n))) (C := RX1) (T := TX1) (N := 4) hx hb hts (fun w h => List.mem_cons_of_mem _ (List.mem_append_right _ h)) hown hK hP 0 rfl rfl 3 (by decide) (hts (.fieldLink RX1 21 "CashAllocator$ExactSet" "count" "I") (by decide +kernel)) (fun _ h9 => h9) (congrArg (fun z => some (Value.int z)) hE) dX1_chooseTwo_4 ?_
      refine lv_icmp_ge (tgt := 63) hx hb dX1_chooseTwo_7 (by decide) (fun c7 => ?_) (fun c7 => ?_)
      · -- 7 taken
        rw [nI_leI (by omega) (by omega)] at c7
        refine lv_iconst (v := 0) hx hb dX1_chooseTwo_63 (by decide) ?_
        have hf : two E sm n n 0 = none := by rw [hg, show n - i = 0 by omega]; rfl
        exact W.zret (ty := .boolean) (v := 0) hx hb hr (by decide) (fun t ht hW => ⟨⟨0, E, rfl, ⟨by rw [hf]; rfl, by rw [hf]; rfl⟩, by rw [ht]; exact hP, va_K.moved hW.alike hK, hD⟩, hS.F ht⟩) hS.2.2 dX1_chooseTwo_64
      · -- 7 on
        rw [nI_leI (by omega) (by omega)] at c7
        have c7 : i < n := by omega
        have hk : n - i = (n - (i + 1)) + 1 := by omega
        rw [hk] at hg
        refine lv_aload_n hx hb dX1_chooseTwo_10 rfl (lv_at hl 1 rfl) ?_
        refine lv_iload_n hx hb dX1_chooseTwo_11 rfl (lv_at hl 2 rfl) ?_
        refine lv_aload_n hx hb dX1_chooseTwo_12 rfl (lv_at hl 1 rfl) ?_
        refine va_get (D := D) (ci := 1) (v := .ref (a 24)) (C := RX1) (T := TX1) (N := 4) hx hb hts (fun w h => List.mem_cons_of_mem _ (List.mem_append_right _ h)) hown hK hP 0 rfl rfl 1 (by decide) (hts (.fieldLink RX1 15 "CashAllocator$ExactSet" "dues" "[I") (by decide +kernel)) (fun _ h9 => h9) rfl dX1_chooseTwo_13 ?_
        refine lv_iload_n hx hb dX1_chooseTwo_16 rfl (lv_at hl 0 rfl) ?_
        refine zald hx hb hK hP 2 (n := 40) (f := (E 1)) rfl (i) rfl (by omega) (by decide) dX1_chooseTwo_17 ?_
        refine lv_isub hx hb dX1_chooseTwo_18 ?_
        refine lv_iload_n hx hb dX1_chooseTwo_19 rfl (lv_at hl 0 rfl) ?_
        refine lv_iconst (v := 1) hx hb dX1_chooseTwo_20 (by decide) ?_
        refine lv_iadd hx hb dX1_chooseTwo_21 ?_
        rw [nI_1]
        refine zcVi (ci := 1) (q0 := 0) (wf := (fun (u : Unit) => (wES a cI E))) (List.range 4) ⟨hx, hb, hml, hown, hts⟩ (zwAll 4 (by decide) rfl hP hD hS hA) hK (c_X1_find l D cI cZ a H.size (E) ((sm) - (E 1 (i))) (n) (i + 1) (by first | assumption | omega) (by first | assumption | omega) (by first | assumption | omega)) (cwV 2 hts gX1_chooseTwo_X1_find rfl rfl rfl (by decide +kernel) ⟨Nat.le_of_ble_eq_true rfl, Nat.le_of_ble_eq_true rfl⟩) rfl rfl (by decide) (fun _ => rfl) rfl hl.1 rfl (Nat.le_of_ble_eq_true rfl) dX1_chooseTwo_22 ⟨Nat.le_of_ble_eq_true rfl, Nat.le_of_ble_eq_true rfl⟩ (fun r22 u H locs hw hP hD hS => ?_)
        subst hw
        refine lv_istore_n (lv' := [(3, .int (oI (fnd ((E) 1) ((sm) - (E 1 (i))) (n - (i + 1)) (i + 1)))), (2, .int (nI (i))), (0, .ref (a 22)), (1, .int (sm))]) hx hb dX1_chooseTwo_25 rfl hl (by decide) rfl (fun ls hl => ?_)
        refine lv_iload_n hx hb dX1_chooseTwo_26 rfl (lv_at hl 0 rfl) ?_
        refine lv_iconst (v := (-1)) hx hb dX1_chooseTwo_27 (by decide) ?_
        refine lv_icmp_eq (tgt := 57) hx hb dX1_chooseTwo_28 (by decide) (fun c28 => ?_) (fun c28 => ?_)
        · -- 28 taken
          have hf := oI_n c28
          have hg2 : two E sm n n 0 = two E sm n (n - (i + 1)) (i + 1) := by rw [hg, two, hf]
          refine lv_iinc (v := nI (i + 1)) (lv' := [(2, .int (nI (i + 1))), (3, .int (oI (fnd ((E) 1) ((sm) - (E 1 (i))) (n - (i + 1)) (i + 1)))), (0, .ref (a 22)), (1, .int (sm))]) hx hb dX1_chooseTwo_57 hl (k := 1) rfl (nI_1 _) (by decide) rfl (fun ls hl => ?_)
          refine lv_goto (tgt := 2) hx hb dX1_chooseTwo_60 (by decide) ?_
          exact ih2 (i + 1) (by omega) hg2 (by omega) _ _ hP hD hS _ (lv_sub hl [0, 2, 3] rfl)
        · -- 28 on
          obtain ⟨q, hq⟩ := oI_y c28
          have gq := fnd_y hq
          rw [hq] at hl
          have hl : lv_has ls 4 [(3, .int (nI (q))), (2, .int (nI (i))), (0, .ref (a 22)), (1, .int (sm))] := hl
          refine lv_aload_n hx hb dX1_chooseTwo_31 rfl (lv_at hl 2 rfl) ?_
          refine va_get (D := D) (ci := 1) (v := .ref (a 25)) (C := RX1) (T := TX1) (N := 4) hx hb hts (fun w h => List.mem_cons_of_mem _ (List.mem_append_right _ h)) hown hK hP 0 rfl rfl 2 (by decide) (hts (.fieldLink RX1 18 "CashAllocator$ExactSet" "chosen" "[I") (by decide +kernel)) (fun _ h9 => h9) rfl dX1_chooseTwo_32 ?_
          refine lv_iconst (v := 0) hx hb dX1_chooseTwo_35 (by decide) ?_
          refine lv_aload_n hx hb dX1_chooseTwo_36 rfl (lv_at hl 2 rfl) ?_
          refine va_get (D := D) (ci := 1) (v := .ref (a 23)) (C := RX1) (T := TX1) (N := 4) hx hb hts (fun w h => List.mem_cons_of_mem _ (List.mem_append_right _ h)) hown hK hP 0 rfl rfl 0 (by decide) (hts (.fieldLink RX1 9 "CashAllocator$ExactSet" "offered" "[I") (by decide +kernel)) (fun _ h9 => h9) rfl dX1_chooseTwo_37 ?_
          refine lv_iload_n hx hb dX1_chooseTwo_40 rfl (lv_at hl 1 rfl) ?_
          refine zald hx hb hK hP 1 (n := 40) (f := (E 0)) rfl (i) rfl (by omega) (by decide) dX1_chooseTwo_41 ?_
          refine zast hx hb hK hP hD hS 3 (n := 3) (f := (E 2)) rfl (0) rfl (by omega) (by decide) (wES a cI (pt E 2 (0) (E 0 (i)))) rfl dX1_chooseTwo_42 (fun H locs hP hD hS => ?_)
          refine lv_aload_n hx hb dX1_chooseTwo_43 rfl (lv_at hl 2 rfl) ?_
          refine va_get (D := D) (ci := 1) (v := .ref (a 25)) (C := RX1) (T := TX1) (N := 4) hx hb hts (fun w h => List.mem_cons_of_mem _ (List.mem_append_right _ h)) hown hK hP 0 rfl rfl 2 (by decide) (hts (.fieldLink RX1 18 "CashAllocator$ExactSet" "chosen" "[I") (by decide +kernel)) (fun _ h9 => h9) rfl dX1_chooseTwo_44 ?_
          refine lv_iconst (v := 1) hx hb dX1_chooseTwo_47 (by decide) ?_
          refine lv_aload_n hx hb dX1_chooseTwo_48 rfl (lv_at hl 2 rfl) ?_
          refine va_get (D := D) (ci := 1) (v := .ref (a 23)) (C := RX1) (T := TX1) (N := 4) hx hb hts (fun w h => List.mem_cons_of_mem _ (List.mem_append_right _ h)) hown hK hP 0 rfl rfl 0 (by decide) (hts (.fieldLink RX1 9 "CashAllocator$ExactSet" "offered" "[I") (by decide +kernel)) (fun _ h9 => h9) rfl dX1_chooseTwo_49 ?_
          refine lv_iload_n hx hb dX1_chooseTwo_52 rfl (lv_at hl 0 rfl) ?_
          refine zald hx hb hK hP 1 (n := 40) (f := (E 0)) rfl (q) rfl (by omega) (by decide) dX1_chooseTwo_53 ?_
          refine zast hx hb hK hP hD hS 3 (n := 3) (f := ((pt E 2 (0) (E 0 (i))) 2)) rfl (1) rfl (by omega) (by decide) (wES a cI (pt (pt E 2 (0) (E 0 (i))) 2 (1) (E 0 (q)))) rfl dX1_chooseTwo_54 (fun H locs hP hD hS => ?_)
          refine lv_iconst (v := 1) hx hb dX1_chooseTwo_55 (by decide) ?_
          have hf : two E sm n n 0 = some (i, q) := by rw [hg, two, hq]
          exact W.zret (ty := .boolean) (v := 1) hx hb hr (by decide) (fun t ht hW => ⟨⟨1, (pt (pt E 2 (0) (E 0 (i))) 2 (1) (E 0 (q))), rfl, ⟨by rw [hf]; rfl, by rw [hf]; rfl⟩, by rw [ht]; exact hP, va_K.moved hW.alike hK, hD⟩, hS.F ht⟩) hS.2.2 dX1_chooseTwo_56
  exact loop2 _ (0) (Nat.zero_le _) (by rw [Nat.sub_zero]) (Nat.lt_succ_self _) _ _ hP hD hS _ (lv_sub hl [0, 1, 2] rfl)
set_option maxHeartbeats 4000000 in
set_option maxRecDepth 100000 in
theorem c_X1_chooseThree (l : Launch) (D : va_G) (cI cZ : ClassId) (a : Nat → Nat) (sz : Nat) (E : Nat → Nat → Int32) (sm : Int32) (n : Nat) (hE : E 3 0 = nI n) (hn : n ≤ 40) : Met l yX1_chooseThree wsX1_chooseThree ({ frames := 1, cells := 0, slots := 0, locals := 23 } : Room) (va_Pc [.ref (a 22), .int (sm)] (PreW D cI cZ (wES a cI E) sz)) (va_Qv (fun (u : Nat → Nat → Int32) => u = thrS E (thr E sm n n 0)) (fun (u : Nat → Nat → Int32) => PostW D cI cZ (va_A (wES a cI E) sz) (wES a cI u)) (va_A (wES a cI E) sz)) 0 0 (va_A (wES a cI E) sz) := by
  refine Met.ofW (cc := cX1_chooseThree) (maxL := 5) (ret := none) (by decide) rfl ?_
  intro p e s m args below meth c s₁ BB hml hv
  obtain ⟨rfl, hsz, hP, hK, hD0⟩ := hv
  have hx := BB.exec
  have hb := BB.bytes
  have hr := BB.returns
  have hts := atoms_spec (ws := wsX1_chooseThree) BB.pre
  have hown : s.vm.findClass RX1 = some m.cls := findClass_of_methodNamed BB.named
  have hlocks := BB.notSynchronized
  clear BB
  subst hsz
  have hD := hD0.self (sz := s.heap.size)
  clear hD0
  generalize hAe : va_A (wES a cI E) s.heap.size = A at hD ⊢
  have hA : ∀ q : Nat, s.heap.size ≤ q → A q := fun q h => by rw [← hAe]; exact Or.inr h
  clear hAe
  have hS : va_S A s.heap s.heap [] := va_S.rf
  have hl := lv_entry ([.ref (a 22), .int (sm)]) (n := 5) (Nat.le_of_ble_eq_true rfl)
  rw [lg_entry_eq]
  generalize (lg_sl ([.ref (a 22), .int (sm)]) ++ List.replicate (5 - (lg_sl ([.ref (a 22), .int (sm)])).length) Slot.unset).toArray = ls at hl ⊢
  have hl : lv_has ls 5 [(0, .ref (a 22)), (1, .int (sm))] := hl
  generalize hHe : s.heap = H at hP
  have hS : va_S A s.heap H [] := by rw [← hHe]; exact va_S.rf
  clear hHe
  generalize hLe : ([] : List Loc) = locs at hS ⊢
  clear hLe
  refine lv_iconst (v := nI (0)) hx hb dX1_chooseThree_0 (by decide) ?_
  refine lv_istore_n (lv' := [(2, .int (nI (0))), (0, .ref (a 22)), (1, .int (sm))]) hx hb dX1_chooseThree_1 rfl hl (by decide) rfl (fun ls hl => ?_)
  have loop2 : ∀ (fu : Nat) (i : Nat) (hin : i ≤ n) (hg : thr E sm n n 0 = thr E sm n (n - i) i) (hfu : n - i < fu) (H : Heap) (locs : List Loc) (hP : va_P D vwCl (wES a cI E) H) (hD : va_D A (wES a cI E)) (hS : va_S A s.heap H locs) (ls : Array Slot) (hl : lv_has ls 5 [(2, .int (nI (i))), (0, .ref (a 22)), (1, .int (sm))]), W p l e (headSpec wsX1_chooseThree ({ frames := 1, cells := 0, slots := 0, locals := 23 } : Room)).room s m ([.ref (a 22), .int (sm)] : List Value).toArray below meth c H locs 0 0 (MQ below (va_Qv (fun (u : Nat → Nat → Int32) => u = thrS E (thr E sm n n 0)) (fun (u : Nat → Nat → Int32) => PostW D cI cZ A (wES a cI u)) A) ([.ref (a 22), .int (sm)] : List Value).toArray s 0 0 A) (F0 m 2 ls []) := by
    clear hP hD hS hl
    intro fu2
    induction fu2 with
    | zero => intro i hin hg hfu; exact absurd hfu (Nat.not_lt_zero _)
    | succ fu2 ih2 =>
      intro i hin hg hfu H locs hP hD hS ls hl
      refine lv_iload_n hx hb dX1_chooseThree_2 rfl (lv_at hl 0 rfl) ?_
      refine lv_aload_n hx hb dX1_chooseThree_3 rfl (lv_at hl 1 rfl) ?_
      refine va_get (D := D) (ci := 1) (v := .int (nI (n))) (C := RX1) (T := TX1) (N := 4) hx hb hts (fun w h => List.mem_cons_of_mem _ (List.mem_append_right _ h)) hown hK hP 0 rfl rfl 3 (by decide) (hts (.fieldLink RX1 21 "CashAllocator$ExactSet" "count" "I") (by decide +kernel)) (fun _ h9 => h9) (congrArg (fun z => some (Value.int z)) hE) dX1_chooseThree_4 ?_
      refine lv_icmp_ge (tgt := 102) hx hb dX1_chooseThree_7 (by decide) (fun c7 => ?_) (fun c7 => ?_)
      · -- 7 taken
        rw [nI_leI (by omega) (by omega)] at c7
        have hfin : thr E sm n n 0 = none := by rw [hg, show n - i = 0 by omega]; rfl
        exact W.vret hx hb hr (fun t ht hW => ⟨⟨E, rfl, by rw [hfin]; rfl, by rw [ht]; exact hP, va_K.moved hW.alike hK, hD⟩, hS.F ht⟩) hS.2.2 dX1_chooseThree_102
      · -- 7 on
        rw [nI_leI (by omega) (by omega)] at c7
        have c7 : i < n := by omega
        have hk : n - i = (n - (i + 1)) + 1 := by omega
        rw [hk] at hg
        refine lv_iload_n hx hb dX1_chooseThree_10 rfl (lv_at hl 0 rfl) ?_
        refine lv_iconst (v := 1) hx hb dX1_chooseThree_11 (by decide) ?_
        refine lv_iadd hx hb dX1_chooseThree_12 ?_
        rw [nI_1]
        refine lv_istore_n (lv' := [(3, .int (nI (i + 1))), (2, .int (nI (i))), (0, .ref (a 22)), (1, .int (sm))]) hx hb dX1_chooseThree_13 rfl hl (by decide) rfl (fun ls hl => ?_)
        have loop14 : ∀ (fu : Nat) (j : Nat) (hjn : j ≤ n) (hij : i < j) (hg3 : thm E sm n i (n - (i + 1)) (i + 1) = thm E sm n i (n - j) j) (hfu : n - j < fu) (H : Heap) (locs : List Loc) (hP : va_P D vwCl (wES a cI E) H) (hD : va_D A (wES a cI E)) (hS : va_S A s.heap H locs) (ls : Array Slot) (hl : lv_has ls 5 [(3, .int (nI (j))), (2, .int (nI (i))), (0, .ref (a 22)), (1, .int (sm))]), W p l e (headSpec wsX1_chooseThree ({ frames := 1, cells := 0, slots := 0, locals := 23 } : Room)).room s m ([.ref (a 22), .int (sm)] : List Value).toArray below meth c H locs 0 0 (MQ below (va_Qv (fun (u : Nat → Nat → Int32) => u = thrS E (thr E sm n n 0)) (fun (u : Nat → Nat → Int32) => PostW D cI cZ A (wES a cI u)) A) ([.ref (a 22), .int (sm)] : List Value).toArray s 0 0 A) (F0 m 14 ls []) := by
          clear hP hD hS hl
          intro fu14
          induction fu14 with
          | zero => intro j hjn hij hg3 hfu; exact absurd hfu (Nat.not_lt_zero _)
          | succ fu14 ih14 =>
            intro j hjn hij hg3 hfu H locs hP hD hS ls hl
            refine lv_iload_n hx hb dX1_chooseThree_14 rfl (lv_at hl 0 rfl) ?_
            refine lv_aload_n hx hb dX1_chooseThree_15 rfl (lv_at hl 2 rfl) ?_
            refine va_get (D := D) (ci := 1) (v := .int (nI (n))) (C := RX1) (T := TX1) (N := 4) hx hb hts (fun w h => List.mem_cons_of_mem _ (List.mem_append_right _ h)) hown hK hP 0 rfl rfl 3 (by decide) (hts (.fieldLink RX1 21 "CashAllocator$ExactSet" "count" "I") (by decide +kernel)) (fun _ h9 => h9) (congrArg (fun z => some (Value.int z)) hE) dX1_chooseThree_16 ?_
            refine lv_icmp_ge (tgt := 96) hx hb dX1_chooseThree_19 (by decide) (fun c19 => ?_) (fun c19 => ?_)
            · -- 19 taken
              rw [nI_leI (by omega) (by omega)] at c19
              have hf : thm E sm n i (n - (i + 1)) (i + 1) = none := by rw [hg3, show n - j = 0 by omega]; rfl
              have hg2 : thr E sm n n 0 = thr E sm n (n - (i + 1)) (i + 1) := by rw [hg, thr, hf]
              refine lv_iinc (v := nI (i + 1)) (lv' := [(2, .int (nI (i + 1))), (3, .int (nI (j))), (0, .ref (a 22)), (1, .int (sm))]) hx hb dX1_chooseThree_96 hl (k := 1) rfl (nI_1 _) (by decide) rfl (fun ls hl => ?_)
              refine lv_goto (tgt := 2) hx hb dX1_chooseThree_99 (by decide) ?_
              exact ih2 (i + 1) (by omega) hg2 (by omega) _ _ hP hD hS _ (lv_sub hl [0, 2, 3] rfl)
            · -- 19 on
              rw [nI_leI (by omega) (by omega)] at c19
              have c19 : j < n := by omega
              have hk3 : n - j = (n - (j + 1)) + 1 := by omega
              rw [hk3] at hg3
              refine lv_aload_n hx hb dX1_chooseThree_22 rfl (lv_at hl 2 rfl) ?_
              refine lv_iload_n hx hb dX1_chooseThree_23 rfl (lv_at hl 3 rfl) ?_
              refine lv_aload_n hx hb dX1_chooseThree_24 rfl (lv_at hl 2 rfl) ?_
              refine va_get (D := D) (ci := 1) (v := .ref (a 24)) (C := RX1) (T := TX1) (N := 4) hx hb hts (fun w h => List.mem_cons_of_mem _ (List.mem_append_right _ h)) hown hK hP 0 rfl rfl 1 (by decide) (hts (.fieldLink RX1 15 "CashAllocator$ExactSet" "dues" "[I") (by decide +kernel)) (fun _ h9 => h9) rfl dX1_chooseThree_25 ?_
              refine lv_iload_n hx hb dX1_chooseThree_28 rfl (lv_at hl 1 rfl) ?_
              refine zald hx hb hK hP 2 (n := 40) (f := (E 1)) rfl (i) rfl (by omega) (by decide) dX1_chooseThree_29 ?_
              refine lv_isub hx hb dX1_chooseThree_30 ?_
              refine lv_aload_n hx hb dX1_chooseThree_31 rfl (lv_at hl 2 rfl) ?_
              refine va_get (D := D) (ci := 1) (v := .ref (a 24)) (C := RX1) (T := TX1) (N := 4) hx hb hts (fun w h => List.mem_cons_of_mem _ (List.mem_append_right _ h)) hown hK hP 0 rfl rfl 1 (by decide) (hts (.fieldLink RX1 15 "CashAllocator$ExactSet" "dues" "[I") (by decide +kernel)) (fun _ h9 => h9) rfl dX1_chooseThree_32 ?_
              refine lv_iload_n hx hb dX1_chooseThree_35 rfl (lv_at hl 0 rfl) ?_
              refine zald hx hb hK hP 2 (n := 40) (f := (E 1)) rfl (j) rfl (by omega) (by decide) dX1_chooseThree_36 ?_
              refine lv_isub hx hb dX1_chooseThree_37 ?_
              refine lv_iload_n hx hb dX1_chooseThree_38 rfl (lv_at hl 0 rfl) ?_
              refine lv_iconst (v := 1) hx hb dX1_chooseThree_39 (by decide) ?_
              refine lv_iadd hx hb dX1_chooseThree_40 ?_
              rw [nI_1]
              refine zcVi (ci := 1) (q0 := 0) (wf := (fun (u : Unit) => (wES a cI E))) (List.range 4) ⟨hx, hb, hml, hown, hts⟩ (zwAll 4 (by decide) rfl hP hD hS hA) hK (c_X1_find l D cI cZ a H.size (E) (((sm) - (E 1 (i))) - (E 1 (j))) (n) (j + 1) (by first | assumption | omega) (by first | assumption | omega) (by first | assumption | omega)) (cwV 2 hts gX1_chooseThree_X1_find rfl rfl rfl (by decide +kernel) ⟨Nat.le_of_ble_eq_true rfl, Nat.le_of_ble_eq_true rfl⟩) rfl rfl (by decide) (fun _ => rfl) rfl hl.1 rfl (Nat.le_of_ble_eq_true rfl) dX1_chooseThree_41 ⟨Nat.le_of_ble_eq_true rfl, Nat.le_of_ble_eq_true rfl⟩ (fun r41 u H locs hw hP hD hS => ?_)
              subst hw
              refine lv_istore (lv' := [(4, .int (oI (fnd ((E) 1) (((sm) - (E 1 (i))) - (E 1 (j))) (n - (j + 1)) (j + 1)))), (3, .int (nI (j))), (2, .int (nI (i))), (0, .ref (a 22)), (1, .int (sm))]) hx hb dX1_chooseThree_44 hl (by decide) rfl (fun ls hl => ?_)
              refine lv_iload hx hb dX1_chooseThree_46 (lv_at hl 0 rfl) ?_
              refine lv_iconst (v := (-1)) hx hb dX1_chooseThree_48 (by decide) ?_
              refine lv_icmp_eq (tgt := 90) hx hb dX1_chooseThree_49 (by decide) (fun c49 => ?_) (fun c49 => ?_)
              · -- 49 taken
                have hf := oI_n c49
                have hg4 : thm E sm n i (n - (i + 1)) (i + 1) = thm E sm n i (n - (j + 1)) (j + 1) := by rw [hg3, thm, hf]
                refine lv_iinc (v := nI (j + 1)) (lv' := [(3, .int (nI (j + 1))), (4, .int (oI (fnd ((E) 1) (((sm) - (E 1 (i))) - (E 1 (j))) (n - (j + 1)) (j + 1)))), (2, .int (nI (i))), (0, .ref (a 22)), (1, .int (sm))]) hx hb dX1_chooseThree_90 hl (k := 1) rfl (nI_1 _) (by decide) rfl (fun ls hl => ?_)
                refine lv_goto (tgt := 14) hx hb dX1_chooseThree_93 (by decide) ?_
                exact ih14 (j + 1) (by omega) (by omega) hg4 (by omega) _ _ hP hD hS _ (lv_sub hl [0, 2, 3, 4] rfl)
              · -- 49 on
                obtain ⟨q, hq⟩ := oI_y c49
                have gq := fnd_y hq
                rw [hq] at hl
                have hl : lv_has ls 5 [(4, .int (nI (q))), (3, .int (nI (j))), (2, .int (nI (i))), (0, .ref (a 22)), (1, .int (sm))] := hl
                refine lv_aload_n hx hb dX1_chooseThree_52 rfl (lv_at hl 3 rfl) ?_
                refine va_get (D := D) (ci := 1) (v := .ref (a 25)) (C := RX1) (T := TX1) (N := 4) hx hb hts (fun w h => List.mem_cons_of_mem _ (List.mem_append_right _ h)) hown hK hP 0 rfl rfl 2 (by decide) (hts (.fieldLink RX1 18 "CashAllocator$ExactSet" "chosen" "[I") (by decide +kernel)) (fun _ h9 => h9) rfl dX1_chooseThree_53 ?_
                refine lv_iconst (v := 0) hx hb dX1_chooseThree_56 (by decide) ?_
                refine lv_aload_n hx hb dX1_chooseThree_57 rfl (lv_at hl 3 rfl) ?_
                refine va_get (D := D) (ci := 1) (v := .ref (a 23)) (C := RX1) (T := TX1) (N := 4) hx hb hts (fun w h => List.mem_cons_of_mem _ (List.mem_append_right _ h)) hown hK hP 0 rfl rfl 0 (by decide) (hts (.fieldLink RX1 9 "CashAllocator$ExactSet" "offered" "[I") (by decide +kernel)) (fun _ h9 => h9) rfl dX1_chooseThree_58 ?_
                refine lv_iload_n hx hb dX1_chooseThree_61 rfl (lv_at hl 2 rfl) ?_
                refine zald hx hb hK hP 1 (n := 40) (f := (E 0)) rfl (i) rfl (by omega) (by decide) dX1_chooseThree_62 ?_
                refine zast hx hb hK hP hD hS 3 (n := 3) (f := (E 2)) rfl (0) rfl (by omega) (by decide) (wES a cI (pt E 2 (0) (E 0 (i)))) rfl dX1_chooseThree_63 (fun H locs hP hD hS => ?_)
                refine lv_aload_n hx hb dX1_chooseThree_64 rfl (lv_at hl 3 rfl) ?_
                refine va_get (D := D) (ci := 1) (v := .ref (a 25)) (C := RX1) (T := TX1) (N := 4) hx hb hts (fun w h => List.mem_cons_of_mem _ (List.mem_append_right _ h)) hown hK hP 0 rfl rfl 2 (by decide) (hts (.fieldLink RX1 18 "CashAllocator$ExactSet" "chosen" "[I") (by decide +kernel)) (fun _ h9 => h9) rfl dX1_chooseThree_65 ?_
                refine lv_iconst (v := 1) hx hb dX1_chooseThree_68 (by decide) ?_
                refine lv_aload_n hx hb dX1_chooseThree_69 rfl (lv_at hl 3 rfl) ?_
                refine va_get (D := D) (ci := 1) (v := .ref (a 23)) (C := RX1) (T := TX1) (N := 4) hx hb hts (fun w h => List.mem_cons_of_mem _ (List.mem_append_right _ h)) hown hK hP 0 rfl rfl 0 (by decide) (hts (.fieldLink RX1 9 "CashAllocator$ExactSet" "offered" "[I") (by decide +kernel)) (fun _ h9 => h9) rfl dX1_chooseThree_70 ?_
                refine lv_iload_n hx hb dX1_chooseThree_73 rfl (lv_at hl 1 rfl) ?_
                refine zald hx hb hK hP 1 (n := 40) (f := (E 0)) rfl (j) rfl (by omega) (by decide) dX1_chooseThree_74 ?_
                refine zast hx hb hK hP hD hS 3 (n := 3) (f := ((pt E 2 (0) (E 0 (i))) 2)) rfl (1) rfl (by omega) (by decide) (wES a cI (pt (pt E 2 (0) (E 0 (i))) 2 (1) (E 0 (j)))) rfl dX1_chooseThree_75 (fun H locs hP hD hS => ?_)
                refine lv_aload_n hx hb dX1_chooseThree_76 rfl (lv_at hl 3 rfl) ?_
                refine va_get (D := D) (ci := 1) (v := .ref (a 25)) (C := RX1) (T := TX1) (N := 4) hx hb hts (fun w h => List.mem_cons_of_mem _ (List.mem_append_right _ h)) hown hK hP 0 rfl rfl 2 (by decide) (hts (.fieldLink RX1 18 "CashAllocator$ExactSet" "chosen" "[I") (by decide +kernel)) (fun _ h9 => h9) rfl dX1_chooseThree_77 ?_
                refine lv_iconst (v := 2) hx hb dX1_chooseThree_80 (by decide) ?_
                refine lv_aload_n hx hb dX1_chooseThree_81 rfl (lv_at hl 3 rfl) ?_
                refine va_get (D := D) (ci := 1) (v := .ref (a 23)) (C := RX1) (T := TX1) (N := 4) hx hb hts (fun w h => List.mem_cons_of_mem _ (List.mem_append_right _ h)) hown hK hP 0 rfl rfl 0 (by decide) (hts (.fieldLink RX1 9 "CashAllocator$ExactSet" "offered" "[I") (by decide +kernel)) (fun _ h9 => h9) rfl dX1_chooseThree_82 ?_
                refine lv_iload hx hb dX1_chooseThree_85 (lv_at hl 0 rfl) ?_
                refine zald hx hb hK hP 1 (n := 40) (f := (E 0)) rfl (q) rfl (by omega) (by decide) dX1_chooseThree_87 ?_
                refine zast hx hb hK hP hD hS 3 (n := 3) (f := ((pt (pt E 2 (0) (E 0 (i))) 2 (1) (E 0 (j))) 2)) rfl (2) rfl (by omega) (by decide) (wES a cI (pt (pt (pt E 2 (0) (E 0 (i))) 2 (1) (E 0 (j))) 2 (2) (E 0 (q)))) rfl dX1_chooseThree_88 (fun H locs hP hD hS => ?_)
                have hf : thm E sm n i (n - (i + 1)) (i + 1) = some (j, q) := by rw [hg3, thm, hq]
                have hfin : thr E sm n n 0 = some (i, j, q) := by rw [hg, thr, hf]
                exact W.vret hx hb hr (fun t ht hW => ⟨⟨(pt (pt (pt E 2 (0) (E 0 (i))) 2 (1) (E 0 (j))) 2 (2) (E 0 (q))), rfl, by rw [hfin]; rfl, by rw [ht]; exact hP, va_K.moved hW.alike hK, hD⟩, hS.F ht⟩) hS.2.2 dX1_chooseThree_89
        exact loop14 _ (i + 1) (c7) (Nat.lt_succ_self _) (rfl) (Nat.lt_succ_self _) _ _ hP hD hS _ (lv_sub hl [0, 1, 2, 3] rfl)
  exact loop2 _ (0) (Nat.zero_le _) (by rw [Nat.sub_zero]) (Nat.lt_succ_self _) _ _ hP hD hS _ (lv_sub hl [0, 1, 2] rfl)
set_option maxHeartbeats 4000000 in
set_option maxRecDepth 100000 in
theorem c_X1_choose (l : Launch) (D : va_G) (cI cZ : ClassId) (a : Nat → Nat) (sz : Nat) (E : Nat → Nat → Int32) (sm : Int32) (n : Nat) (hE : E 3 0 = nI n) (hn : n ≤ 40) : Met l yX1_choose wsX1_choose ({ frames := 2, cells := 0, slots := 0, locals := 47 } : Room) (va_Pc [.ref (a 22), .int (sm)] (PreW D cI cZ (wES a cI E) sz)) (va_Qv (fun (u : Nat → Nat → Int32) => u = chE E sm n) (fun (u : Nat → Nat → Int32) => PostW D cI cZ (va_A (wES a cI E) sz) (wES a cI u)) (va_A (wES a cI E) sz)) 0 0 (va_A (wES a cI E) sz) := by
  refine Met.ofW (cc := cX1_choose) (maxL := 2) (ret := none) (by decide) rfl ?_
  intro p e s m args below meth c s₁ BB hml hv
  obtain ⟨rfl, hsz, hP, hK, hD0⟩ := hv
  have hx := BB.exec
  have hb := BB.bytes
  have hr := BB.returns
  have hts := atoms_spec (ws := wsX1_choose) BB.pre
  have hown : s.vm.findClass RX1 = some m.cls := findClass_of_methodNamed BB.named
  have hlocks := BB.notSynchronized
  clear BB
  subst hsz
  have hD := hD0.self (sz := s.heap.size)
  clear hD0
  generalize hAe : va_A (wES a cI E) s.heap.size = A at hD ⊢
  have hA : ∀ q : Nat, s.heap.size ≤ q → A q := fun q h => by rw [← hAe]; exact Or.inr h
  clear hAe
  have hS : va_S A s.heap s.heap [] := va_S.rf
  have hl := lv_entry ([.ref (a 22), .int (sm)]) (n := 2) (Nat.le_of_ble_eq_true rfl)
  rw [lg_entry_eq]
  generalize (lg_sl ([.ref (a 22), .int (sm)]) ++ List.replicate (2 - (lg_sl ([.ref (a 22), .int (sm)])).length) Slot.unset).toArray = ls at hl ⊢
  have hl : lv_has ls 2 [(0, .ref (a 22)), (1, .int (sm))] := hl
  generalize hHe : s.heap = H at hP
  have hS : va_S A s.heap H [] := by rw [← hHe]; exact va_S.rf
  clear hHe
  generalize hLe : ([] : List Loc) = locs at hS ⊢
  clear hLe
  refine lv_aload_n hx hb dX1_choose_0 rfl (lv_at hl 0 rfl) ?_
  refine lv_iload_n hx hb dX1_choose_1 rfl (lv_at hl 1 rfl) ?_
  refine zcVi (ci := 1) (q0 := 0) (wf := (fun (u : Nat → Nat → Int32) => (wES a cI u))) (List.range 4) ⟨hx, hb, hml, hown, hts⟩ (zwAll 4 (by decide) rfl hP hD hS hA) hK (c_X1_chooseOne l D cI cZ a H.size (E) (sm) (n) (by first | assumption | omega) (by first | assumption | omega)) (cwV 1 hts gX1_choose_X1_chooseOne rfl rfl rfl (by decide +kernel) ⟨Nat.le_of_ble_eq_true rfl, Nat.le_of_ble_eq_true rfl⟩) rfl rfl (by decide) (fun _ => rfl) rfl hl.1 rfl (Nat.le_of_ble_eq_true rfl) dX1_choose_2 ⟨Nat.le_of_ble_eq_true rfl, Nat.le_of_ble_eq_true rfl⟩ (fun r2 u H locs hw hP hD hS => ?_)
  obtain ⟨rfl, rfl⟩ := hw
  have hP : va_P D vwCl (wES a cI (oneS (E) (oneE (E) (sm) n))) H := hP
  have hD : va_D A (wES a cI (oneS (E) (oneE (E) (sm) n))) := hD
  refine lv_if_ne (tgt := 21) hx hb dX1_choose_5 (by decide) (fun c5 => ?_) (fun c5 => ?_)
  · -- 5 taken
    have c5 := b2_1 c5
    exact W.vret hx hb hr (fun t ht hW => ⟨⟨(oneS (E) (oneE (E) (sm) n)), rfl, by unfold chE; first | rw [if_pos c5] | rw [if_neg c5, if_pos c13] | rw [if_neg c5, if_neg c13], by rw [ht]; exact hP, va_K.moved hW.alike hK, hD⟩, hS.F ht⟩) hS.2.2 dX1_choose_21
  · -- 5 on
    have c5 := b2_0 c5
    have g1 : oneE E sm n = none := Classical.not_not.mp c5
    have hbk : (oneS (E) (oneE (E) (sm) n)) = E := by rw [g1]; rfl
    have hP : va_P D vwCl (wES a cI E) H := by rw [← hbk]; exact hP
    have hD : va_D A (wES a cI E) := by rw [← hbk]; exact hD
    refine lv_aload_n hx hb dX1_choose_8 rfl (lv_at hl 0 rfl) ?_
    refine lv_iload_n hx hb dX1_choose_9 rfl (lv_at hl 1 rfl) ?_
    refine zcVi (ci := 1) (q0 := 0) (wf := (fun (u : Nat → Nat → Int32) => (wES a cI u))) (List.range 4) ⟨hx, hb, hml, hown, hts⟩ (zwAll 4 (by decide) rfl hP hD hS hA) hK (c_X1_chooseTwo l D cI cZ a H.size (E) (sm) (n) (by first | assumption | omega) (by first | assumption | omega)) (cwV 1 hts gX1_choose_X1_chooseTwo rfl rfl rfl (by decide +kernel) ⟨Nat.le_of_ble_eq_true rfl, Nat.le_of_ble_eq_true rfl⟩) rfl rfl (by decide) (fun _ => rfl) rfl hl.1 rfl (Nat.le_of_ble_eq_true rfl) dX1_choose_10 ⟨Nat.le_of_ble_eq_true rfl, Nat.le_of_ble_eq_true rfl⟩ (fun r10 u H locs hw hP hD hS => ?_)
    obtain ⟨rfl, rfl⟩ := hw
    have hP : va_P D vwCl (wES a cI (twoS (E) (two (E) (sm) n n 0))) H := hP
    have hD : va_D A (wES a cI (twoS (E) (two (E) (sm) n n 0))) := hD
    refine lv_if_ne (tgt := 21) hx hb dX1_choose_13 (by decide) (fun c13 => ?_) (fun c13 => ?_)
    · -- 13 taken
      have c13 := b2_1 c13
      exact W.vret hx hb hr (fun t ht hW => ⟨⟨(twoS (E) (two (E) (sm) n n 0)), rfl, by unfold chE; first | rw [if_pos c5] | rw [if_neg c5, if_pos c13] | rw [if_neg c5, if_neg c13], by rw [ht]; exact hP, va_K.moved hW.alike hK, hD⟩, hS.F ht⟩) hS.2.2 dX1_choose_21
    · -- 13 on
      have c13 := b2_0 c13
      have g2 : two E sm n n 0 = none := Classical.not_not.mp c13
      have hbk : (twoS (E) (two (E) (sm) n n 0)) = E := by rw [g2]; rfl
      have hP : va_P D vwCl (wES a cI E) H := by rw [← hbk]; exact hP
      have hD : va_D A (wES a cI E) := by rw [← hbk]; exact hD
      refine lv_aload_n hx hb dX1_choose_16 rfl (lv_at hl 0 rfl) ?_
      refine lv_iload_n hx hb dX1_choose_17 rfl (lv_at hl 1 rfl) ?_
      refine zcVv (ci := 1) (q0 := 0) (wf := (fun (u : Nat → Nat → Int32) => (wES a cI u))) (List.range 4) ⟨hx, hb, hml, hown, hts⟩ (zwAll 4 (by decide) rfl hP hD hS hA) hK (c_X1_chooseThree l D cI cZ a H.size (E) (sm) (n) (by first | assumption | omega) (by first | assumption | omega)) (cwV 1 hts gX1_choose_X1_chooseThree rfl rfl rfl (by decide +kernel) ⟨Nat.le_of_ble_eq_true rfl, Nat.le_of_ble_eq_true rfl⟩) rfl rfl (by decide) (fun _ => rfl) rfl hl.1 rfl (Nat.le_of_ble_eq_true rfl) dX1_choose_18 ⟨Nat.le_of_ble_eq_true rfl, Nat.le_of_ble_eq_true rfl⟩ (fun u H locs hw hP hD hS => ?_)
      subst hw
      have hP : va_P D vwCl (wES a cI (thrS (E) (thr (E) (sm) n n 0))) H := hP
      have hD : va_D A (wES a cI (thrS (E) (thr (E) (sm) n n 0))) := hD
      exact W.vret hx hb hr (fun t ht hW => ⟨⟨(thrS (E) (thr (E) (sm) n n 0)), rfl, by unfold chE; first | rw [if_pos c5] | rw [if_neg c5, if_pos c13] | rw [if_neg c5, if_neg c13], by rw [ht]; exact hP, va_K.moved hW.alike hK, hD⟩, hS.F ht⟩) hS.2.2 dX1_choose_21
