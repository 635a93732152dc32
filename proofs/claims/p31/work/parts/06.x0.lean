theorem dX0_init_0 : decode cX0_init 0 = .ok (.aload_n 0, 1) := by decide +kernel
theorem dX0_init_1 : decode cX0_init 1 = .ok (.invokespecial 3, 3) := by decide +kernel
theorem dX0_init_4 : decode cX0_init 4 = .ok (.aload_n 0, 1) := by decide +kernel
theorem dX0_init_5 : decode cX0_init 5 = .ok (.bipush 40, 2) := by decide +kernel
theorem dX0_init_7 : decode cX0_init 7 = .ok (.newarray .int, 2) := by decide +kernel
theorem dX0_init_9 : decode cX0_init 9 = .ok (.putfield 9, 3) := by decide +kernel
theorem dX0_init_12 : decode cX0_init 12 = .ok (.aload_n 0, 1) := by decide +kernel
theorem dX0_init_13 : decode cX0_init 13 = .ok (.bipush 40, 2) := by decide +kernel
theorem dX0_init_15 : decode cX0_init 15 = .ok (.newarray .int, 2) := by decide +kernel
theorem dX0_init_17 : decode cX0_init 17 = .ok (.putfield 15, 3) := by decide +kernel
theorem dX0_init_20 : decode cX0_init 20 = .ok (.aload_n 0, 1) := by decide +kernel
theorem dX0_init_21 : decode cX0_init 21 = .ok (.bipush 40, 2) := by decide +kernel
theorem dX0_init_23 : decode cX0_init 23 = .ok (.newarray .int, 2) := by decide +kernel
theorem dX0_init_25 : decode cX0_init 25 = .ok (.putfield 18, 3) := by decide +kernel
theorem dX0_init_28 : decode cX0_init 28 = .ok (.aload_n 0, 1) := by decide +kernel
theorem dX0_init_29 : decode cX0_init 29 = .ok (.bipush 40, 2) := by decide +kernel
theorem dX0_init_31 : decode cX0_init 31 = .ok (.newarray .int, 2) := by decide +kernel
theorem dX0_init_33 : decode cX0_init 33 = .ok (.putfield 21, 3) := by decide +kernel
theorem dX0_init_36 : decode cX0_init 36 = .ok (.aload_n 0, 1) := by decide +kernel
theorem dX0_init_37 : decode cX0_init 37 = .ok (.bipush 40, 2) := by decide +kernel
theorem dX0_init_39 : decode cX0_init 39 = .ok (.newarray .int, 2) := by decide +kernel
theorem dX0_init_41 : decode cX0_init 41 = .ok (.putfield 24, 3) := by decide +kernel
theorem dX0_init_44 : decode cX0_init 44 = .ok (.aload_n 0, 1) := by decide +kernel
theorem dX0_init_45 : decode cX0_init 45 = .ok (.bipush 40, 2) := by decide +kernel
theorem dX0_init_47 : decode cX0_init 47 = .ok (.newarray .int, 2) := by decide +kernel
theorem dX0_init_49 : decode cX0_init 49 = .ok (.putfield 27, 3) := by decide +kernel
theorem dX0_init_52 : decode cX0_init 52 = .ok (.aload_n 0, 1) := by decide +kernel
theorem dX0_init_53 : decode cX0_init 53 = .ok (.bipush 40, 2) := by decide +kernel
theorem dX0_init_55 : decode cX0_init 55 = .ok (.newarray .int, 2) := by decide +kernel
theorem dX0_init_57 : decode cX0_init 57 = .ok (.putfield 30, 3) := by decide +kernel
theorem dX0_init_60 : decode cX0_init 60 = .ok (.aload_n 0, 1) := by decide +kernel
theorem dX0_init_61 : decode cX0_init 61 = .ok (.bipush 40, 2) := by decide +kernel
theorem dX0_init_63 : decode cX0_init 63 = .ok (.newarray .int, 2) := by decide +kernel
theorem dX0_init_65 : decode cX0_init 65 = .ok (.putfield 33, 3) := by decide +kernel
theorem dX0_init_68 : decode cX0_init 68 = .ok (.aload_n 0, 1) := by decide +kernel
theorem dX0_init_69 : decode cX0_init 69 = .ok (.bipush 40, 2) := by decide +kernel
theorem dX0_init_71 : decode cX0_init 71 = .ok (.newarray .int, 2) := by decide +kernel
theorem dX0_init_73 : decode cX0_init 73 = .ok (.putfield 36, 3) := by decide +kernel
theorem dX0_init_76 : decode cX0_init 76 = .ok (.aload_n 0, 1) := by decide +kernel
theorem dX0_init_77 : decode cX0_init 77 = .ok (.bipush 40, 2) := by decide +kernel
theorem dX0_init_79 : decode cX0_init 79 = .ok (.newarray .int, 2) := by decide +kernel
theorem dX0_init_81 : decode cX0_init 81 = .ok (.putfield 39, 3) := by decide +kernel
theorem dX0_init_84 : decode cX0_init 84 = .ok (.aload_n 0, 1) := by decide +kernel
theorem dX0_init_85 : decode cX0_init 85 = .ok (.bipush 40, 2) := by decide +kernel
theorem dX0_init_87 : decode cX0_init 87 = .ok (.newarray .int, 2) := by decide +kernel
theorem dX0_init_89 : decode cX0_init 89 = .ok (.putfield 42, 3) := by decide +kernel
theorem dX0_init_92 : decode cX0_init 92 = .ok (.return_, 1) := by decide +kernel
theorem dX0_add_0 : decode cX0_add 0 = .ok (.aload_n 0, 1) := by decide +kernel
theorem dX0_add_1 : decode cX0_add 1 = .ok (.getfield 45, 3) := by decide +kernel
theorem dX0_add_4 : decode cX0_add 4 = .ok (.istore 6, 2) := by decide +kernel
theorem dX0_add_6 : decode cX0_add 6 = .ok (.aload_n 0, 1) := by decide +kernel
theorem dX0_add_7 : decode cX0_add 7 = .ok (.getfield 9, 3) := by decide +kernel
theorem dX0_add_10 : decode cX0_add 10 = .ok (.iload 6, 2) := by decide +kernel
theorem dX0_add_12 : decode cX0_add 12 = .ok (.iload_n 1, 1) := by decide +kernel
theorem dX0_add_13 : decode cX0_add 13 = .ok (.iastore, 1) := by decide +kernel
theorem dX0_add_14 : decode cX0_add 14 = .ok (.aload_n 0, 1) := by decide +kernel
theorem dX0_add_15 : decode cX0_add 15 = .ok (.getfield 15, 3) := by decide +kernel
theorem dX0_add_18 : decode cX0_add 18 = .ok (.iload 6, 2) := by decide +kernel
theorem dX0_add_20 : decode cX0_add 20 = .ok (.iload_n 2, 1) := by decide +kernel
theorem dX0_add_21 : decode cX0_add 21 = .ok (.iastore, 1) := by decide +kernel
theorem dX0_add_22 : decode cX0_add 22 = .ok (.aload_n 0, 1) := by decide +kernel
theorem dX0_add_23 : decode cX0_add 23 = .ok (.getfield 18, 3) := by decide +kernel
theorem dX0_add_26 : decode cX0_add 26 = .ok (.iload 6, 2) := by decide +kernel
theorem dX0_add_28 : decode cX0_add 28 = .ok (.iload_n 3, 1) := by decide +kernel
theorem dX0_add_29 : decode cX0_add 29 = .ok (.iastore, 1) := by decide +kernel
theorem dX0_add_30 : decode cX0_add 30 = .ok (.aload_n 0, 1) := by decide +kernel
theorem dX0_add_31 : decode cX0_add 31 = .ok (.getfield 21, 3) := by decide +kernel
theorem dX0_add_34 : decode cX0_add 34 = .ok (.iload 6, 2) := by decide +kernel
theorem dX0_add_36 : decode cX0_add 36 = .ok (.iload 4, 2) := by decide +kernel
theorem dX0_add_38 : decode cX0_add 38 = .ok (.iastore, 1) := by decide +kernel
theorem dX0_add_39 : decode cX0_add 39 = .ok (.aload_n 0, 1) := by decide +kernel
theorem dX0_add_40 : decode cX0_add 40 = .ok (.getfield 24, 3) := by decide +kernel
theorem dX0_add_43 : decode cX0_add 43 = .ok (.iload 6, 2) := by decide +kernel
theorem dX0_add_45 : decode cX0_add 45 = .ok (.iload 5, 2) := by decide +kernel
theorem dX0_add_47 : decode cX0_add 47 = .ok (.iastore, 1) := by decide +kernel
theorem dX0_add_48 : decode cX0_add 48 = .ok (.aload_n 0, 1) := by decide +kernel
theorem dX0_add_49 : decode cX0_add 49 = .ok (.getfield 33, 3) := by decide +kernel
theorem dX0_add_52 : decode cX0_add 52 = .ok (.iload 6, 2) := by decide +kernel
theorem dX0_add_54 : decode cX0_add 54 = .ok (.iconst (-1), 1) := by decide +kernel
theorem dX0_add_55 : decode cX0_add 55 = .ok (.iastore, 1) := by decide +kernel
theorem dX0_add_56 : decode cX0_add 56 = .ok (.aload_n 0, 1) := by decide +kernel
theorem dX0_add_57 : decode cX0_add 57 = .ok (.getfield 39, 3) := by decide +kernel
theorem dX0_add_60 : decode cX0_add 60 = .ok (.iload 6, 2) := by decide +kernel
theorem dX0_add_62 : decode cX0_add 62 = .ok (.iconst (-1), 1) := by decide +kernel
theorem dX0_add_63 : decode cX0_add 63 = .ok (.iastore, 1) := by decide +kernel
theorem dX0_add_64 : decode cX0_add 64 = .ok (.aload_n 0, 1) := by decide +kernel
theorem dX0_add_65 : decode cX0_add 65 = .ok (.dup, 1) := by decide +kernel
theorem dX0_add_66 : decode cX0_add 66 = .ok (.getfield 45, 3) := by decide +kernel
theorem dX0_add_69 : decode cX0_add 69 = .ok (.iconst 1, 1) := by decide +kernel
theorem dX0_add_70 : decode cX0_add 70 = .ok (.iadd, 1) := by decide +kernel
theorem dX0_add_71 : decode cX0_add 71 = .ok (.putfield 45, 3) := by decide +kernel
theorem dX0_add_74 : decode cX0_add 74 = .ok (.iload 6, 2) := by decide +kernel
theorem dX0_add_76 : decode cX0_add 76 = .ok (.ireturn, 1) := by decide +kernel
theorem dX0_openSum_0 : decode cX0_openSum 0 = .ok (.aload_n 0, 1) := by decide +kernel
theorem dX0_openSum_1 : decode cX0_openSum 1 = .ok (.getfield 15, 3) := by decide +kernel
theorem dX0_openSum_4 : decode cX0_openSum 4 = .ok (.iload_n 1, 1) := by decide +kernel
theorem dX0_openSum_5 : decode cX0_openSum 5 = .ok (.iaload, 1) := by decide +kernel
theorem dX0_openSum_6 : decode cX0_openSum 6 = .ok (.aload_n 0, 1) := by decide +kernel
theorem dX0_openSum_7 : decode cX0_openSum 7 = .ok (.getfield 27, 3) := by decide +kernel
theorem dX0_openSum_10 : decode cX0_openSum 10 = .ok (.iload_n 1, 1) := by decide +kernel
theorem dX0_openSum_11 : decode cX0_openSum 11 = .ok (.iaload, 1) := by decide +kernel
theorem dX0_openSum_12 : decode cX0_openSum 12 = .ok (.isub, 1) := by decide +kernel
theorem dX0_openSum_13 : decode cX0_openSum 13 = .ok (.aload_n 0, 1) := by decide +kernel
theorem dX0_openSum_14 : decode cX0_openSum 14 = .ok (.getfield 30, 3) := by decide +kernel
theorem dX0_openSum_17 : decode cX0_openSum 17 = .ok (.iload_n 1, 1) := by decide +kernel
theorem dX0_openSum_18 : decode cX0_openSum 18 = .ok (.iaload, 1) := by decide +kernel
theorem dX0_openSum_19 : decode cX0_openSum 19 = .ok (.isub, 1) := by decide +kernel
theorem dX0_openSum_20 : decode cX0_openSum 20 = .ok (.aload_n 0, 1) := by decide +kernel
theorem dX0_openSum_21 : decode cX0_openSum 21 = .ok (.getfield 36, 3) := by decide +kernel
theorem dX0_openSum_24 : decode cX0_openSum 24 = .ok (.iload_n 1, 1) := by decide +kernel
theorem dX0_openSum_25 : decode cX0_openSum 25 = .ok (.iaload, 1) := by decide +kernel
theorem dX0_openSum_26 : decode cX0_openSum 26 = .ok (.isub, 1) := by decide +kernel
theorem dX0_openSum_27 : decode cX0_openSum 27 = .ok (.aload_n 0, 1) := by decide +kernel
theorem dX0_openSum_28 : decode cX0_openSum 28 = .ok (.getfield 42, 3) := by decide +kernel
theorem dX0_openSum_31 : decode cX0_openSum 31 = .ok (.iload_n 1, 1) := by decide +kernel
theorem dX0_openSum_32 : decode cX0_openSum 32 = .ok (.iaload, 1) := by decide +kernel
theorem dX0_openSum_33 : decode cX0_openSum 33 = .ok (.isub, 1) := by decide +kernel
theorem dX0_openSum_34 : decode cX0_openSum 34 = .ok (.ireturn, 1) := by decide +kernel
theorem dX0_isOpenFor_0 : decode cX0_isOpenFor 0 = .ok (.aload_n 0, 1) := by decide +kernel
theorem dX0_isOpenFor_1 : decode cX0_isOpenFor 1 = .ok (.getfield 9, 3) := by decide +kernel
theorem dX0_isOpenFor_4 : decode cX0_isOpenFor 4 = .ok (.iload_n 1, 1) := by decide +kernel
theorem dX0_isOpenFor_5 : decode cX0_isOpenFor 5 = .ok (.iaload, 1) := by decide +kernel
theorem dX0_isOpenFor_6 : decode cX0_isOpenFor 6 = .ok (.iload_n 2, 1) := by decide +kernel
theorem dX0_isOpenFor_7 : decode cX0_isOpenFor 7 = .ok (.if_icmp .ne 15, 3) := by decide +kernel
theorem dX0_isOpenFor_10 : decode cX0_isOpenFor 10 = .ok (.aload_n 0, 1) := by decide +kernel
theorem dX0_isOpenFor_11 : decode cX0_isOpenFor 11 = .ok (.iload_n 1, 1) := by decide +kernel
theorem dX0_isOpenFor_12 : decode cX0_isOpenFor 12 = .ok (.invokevirtual 49, 3) := by decide +kernel
theorem dX0_isOpenFor_15 : decode cX0_isOpenFor 15 = .ok (.ifCond .le 7, 3) := by decide +kernel
theorem dX0_isOpenFor_18 : decode cX0_isOpenFor 18 = .ok (.iconst 1, 1) := by decide +kernel
theorem dX0_isOpenFor_19 : decode cX0_isOpenFor 19 = .ok (.goto 4, 3) := by decide +kernel
theorem dX0_isOpenFor_22 : decode cX0_isOpenFor 22 = .ok (.iconst 0, 1) := by decide +kernel
theorem dX0_isOpenFor_23 : decode cX0_isOpenFor 23 = .ok (.ireturn, 1) := by decide +kernel
theorem dX0_allowsDiscount_0 : decode cX0_allowsDiscount 0 = .ok (.aload_n 0, 1) := by decide +kernel
theorem dX0_allowsDiscount_1 : decode cX0_allowsDiscount 1 = .ok (.iload_n 1, 1) := by decide +kernel
theorem dX0_allowsDiscount_2 : decode cX0_allowsDiscount 2 = .ok (.invokevirtual 49, 3) := by decide +kernel
theorem dX0_allowsDiscount_5 : decode cX0_allowsDiscount 5 = .ok (.aload_n 0, 1) := by decide +kernel
theorem dX0_allowsDiscount_6 : decode cX0_allowsDiscount 6 = .ok (.getfield 15, 3) := by decide +kernel
theorem dX0_allowsDiscount_9 : decode cX0_allowsDiscount 9 = .ok (.iload_n 1, 1) := by decide +kernel
theorem dX0_allowsDiscount_10 : decode cX0_allowsDiscount 10 = .ok (.iaload, 1) := by decide +kernel
theorem dX0_allowsDiscount_11 : decode cX0_allowsDiscount 11 = .ok (.if_icmp .ne 17, 3) := by decide +kernel
theorem dX0_allowsDiscount_14 : decode cX0_allowsDiscount 14 = .ok (.iload_n 2, 1) := by decide +kernel
theorem dX0_allowsDiscount_15 : decode cX0_allowsDiscount 15 = .ok (.aload_n 0, 1) := by decide +kernel
theorem dX0_allowsDiscount_16 : decode cX0_allowsDiscount 16 = .ok (.getfield 24, 3) := by decide +kernel
theorem dX0_allowsDiscount_19 : decode cX0_allowsDiscount 19 = .ok (.iload_n 1, 1) := by decide +kernel
theorem dX0_allowsDiscount_20 : decode cX0_allowsDiscount 20 = .ok (.iaload, 1) := by decide +kernel
theorem dX0_allowsDiscount_21 : decode cX0_allowsDiscount 21 = .ok (.if_icmp .gt 7, 3) := by decide +kernel
theorem dX0_allowsDiscount_24 : decode cX0_allowsDiscount 24 = .ok (.iconst 1, 1) := by decide +kernel
theorem dX0_allowsDiscount_25 : decode cX0_allowsDiscount 25 = .ok (.goto 4, 3) := by decide +kernel
theorem dX0_allowsDiscount_28 : decode cX0_allowsDiscount 28 = .ok (.iconst 0, 1) := by decide +kernel
theorem dX0_allowsDiscount_29 : decode cX0_allowsDiscount 29 = .ok (.ireturn, 1) := by decide +kernel
theorem dX0_dueOn_0 : decode cX0_dueOn 0 = .ok (.aload_n 0, 1) := by decide +kernel
theorem dX0_dueOn_1 : decode cX0_dueOn 1 = .ok (.iload_n 1, 1) := by decide +kernel
theorem dX0_dueOn_2 : decode cX0_dueOn 2 = .ok (.invokevirtual 49, 3) := by decide +kernel
theorem dX0_dueOn_5 : decode cX0_dueOn 5 = .ok (.istore_n 3, 1) := by decide +kernel
theorem dX0_dueOn_6 : decode cX0_dueOn 6 = .ok (.aload_n 0, 1) := by decide +kernel
theorem dX0_dueOn_7 : decode cX0_dueOn 7 = .ok (.iload_n 1, 1) := by decide +kernel
theorem dX0_dueOn_8 : decode cX0_dueOn 8 = .ok (.iload_n 2, 1) := by decide +kernel
theorem dX0_dueOn_9 : decode cX0_dueOn 9 = .ok (.invokevirtual 53, 3) := by decide +kernel
theorem dX0_dueOn_12 : decode cX0_dueOn 12 = .ok (.ifCond .eq 14, 3) := by decide +kernel
theorem dX0_dueOn_15 : decode cX0_dueOn 15 = .ok (.iload_n 3, 1) := by decide +kernel
theorem dX0_dueOn_16 : decode cX0_dueOn 16 = .ok (.aload_n 0, 1) := by decide +kernel
theorem dX0_dueOn_17 : decode cX0_dueOn 17 = .ok (.getfield 21, 3) := by decide +kernel
theorem dX0_dueOn_20 : decode cX0_dueOn 20 = .ok (.iload_n 1, 1) := by decide +kernel
theorem dX0_dueOn_21 : decode cX0_dueOn 21 = .ok (.iaload, 1) := by decide +kernel
theorem dX0_dueOn_22 : decode cX0_dueOn 22 = .ok (.isub, 1) := by decide +kernel
theorem dX0_dueOn_23 : decode cX0_dueOn 23 = .ok (.goto 4, 3) := by decide +kernel
theorem dX0_dueOn_26 : decode cX0_dueOn 26 = .ok (.iload_n 3, 1) := by decide +kernel
theorem dX0_dueOn_27 : decode cX0_dueOn 27 = .ok (.ireturn, 1) := by decide +kernel
theorem dX0_customerNamedBy_0 : decode cX0_customerNamedBy 0 = .ok (.iconst 0, 1) := by decide +kernel
theorem dX0_customerNamedBy_1 : decode cX0_customerNamedBy 1 = .ok (.istore_n 2, 1) := by decide +kernel
theorem dX0_customerNamedBy_2 : decode cX0_customerNamedBy 2 = .ok (.iload_n 2, 1) := by decide +kernel
theorem dX0_customerNamedBy_3 : decode cX0_customerNamedBy 3 = .ok (.aload_n 0, 1) := by decide +kernel
theorem dX0_customerNamedBy_4 : decode cX0_customerNamedBy 4 = .ok (.getfield 45, 3) := by decide +kernel
theorem dX0_customerNamedBy_7 : decode cX0_customerNamedBy 7 = .ok (.if_icmp .ge 34, 3) := by decide +kernel
theorem dX0_customerNamedBy_10 : decode cX0_customerNamedBy 10 = .ok (.aload_n 0, 1) := by decide +kernel
theorem dX0_customerNamedBy_11 : decode cX0_customerNamedBy 11 = .ok (.getfield 18, 3) := by decide +kernel
theorem dX0_customerNamedBy_14 : decode cX0_customerNamedBy 14 = .ok (.iload_n 2, 1) := by decide +kernel
theorem dX0_customerNamedBy_15 : decode cX0_customerNamedBy 15 = .ok (.iaload, 1) := by decide +kernel
theorem dX0_customerNamedBy_16 : decode cX0_customerNamedBy 16 = .ok (.iload_n 1, 1) := by decide +kernel
theorem dX0_customerNamedBy_17 : decode cX0_customerNamedBy 17 = .ok (.if_icmp .ne 18, 3) := by decide +kernel
theorem dX0_customerNamedBy_20 : decode cX0_customerNamedBy 20 = .ok (.aload_n 0, 1) := by decide +kernel
theorem dX0_customerNamedBy_21 : decode cX0_customerNamedBy 21 = .ok (.iload_n 2, 1) := by decide +kernel
theorem dX0_customerNamedBy_22 : decode cX0_customerNamedBy 22 = .ok (.invokevirtual 49, 3) := by decide +kernel
theorem dX0_customerNamedBy_25 : decode cX0_customerNamedBy 25 = .ok (.ifCond .le 10, 3) := by decide +kernel
theorem dX0_customerNamedBy_28 : decode cX0_customerNamedBy 28 = .ok (.aload_n 0, 1) := by decide +kernel
theorem dX0_customerNamedBy_29 : decode cX0_customerNamedBy 29 = .ok (.getfield 9, 3) := by decide +kernel
theorem dX0_customerNamedBy_32 : decode cX0_customerNamedBy 32 = .ok (.iload_n 2, 1) := by decide +kernel
theorem dX0_customerNamedBy_33 : decode cX0_customerNamedBy 33 = .ok (.iaload, 1) := by decide +kernel
theorem dX0_customerNamedBy_34 : decode cX0_customerNamedBy 34 = .ok (.ireturn, 1) := by decide +kernel
theorem dX0_customerNamedBy_35 : decode cX0_customerNamedBy 35 = .ok (.iinc 2 1, 3) := by decide +kernel
theorem dX0_customerNamedBy_38 : decode cX0_customerNamedBy 38 = .ok (.goto (-36), 3) := by decide +kernel
theorem dX0_customerNamedBy_41 : decode cX0_customerNamedBy 41 = .ok (.iconst (-1), 1) := by decide +kernel
theorem dX0_customerNamedBy_42 : decode cX0_customerNamedBy 42 = .ok (.ireturn, 1) := by decide +kernel
theorem dX0_takeDiscount_0 : decode cX0_takeDiscount 0 = .ok (.aload_n 0, 1) := by decide +kernel
theorem dX0_takeDiscount_1 : decode cX0_takeDiscount 1 = .ok (.iload_n 1, 1) := by decide +kernel
theorem dX0_takeDiscount_2 : decode cX0_takeDiscount 2 = .ok (.iload_n 3, 1) := by decide +kernel
theorem dX0_takeDiscount_3 : decode cX0_takeDiscount 3 = .ok (.invokevirtual 53, 3) := by decide +kernel
theorem dX0_takeDiscount_6 : decode cX0_takeDiscount 6 = .ok (.ifCond .eq 22, 3) := by decide +kernel
theorem dX0_takeDiscount_9 : decode cX0_takeDiscount 9 = .ok (.aload_n 0, 1) := by decide +kernel
theorem dX0_takeDiscount_10 : decode cX0_takeDiscount 10 = .ok (.getfield 30, 3) := by decide +kernel
theorem dX0_takeDiscount_13 : decode cX0_takeDiscount 13 = .ok (.iload_n 1, 1) := by decide +kernel
theorem dX0_takeDiscount_14 : decode cX0_takeDiscount 14 = .ok (.aload_n 0, 1) := by decide +kernel
theorem dX0_takeDiscount_15 : decode cX0_takeDiscount 15 = .ok (.getfield 21, 3) := by decide +kernel
theorem dX0_takeDiscount_18 : decode cX0_takeDiscount 18 = .ok (.iload_n 1, 1) := by decide +kernel
theorem dX0_takeDiscount_19 : decode cX0_takeDiscount 19 = .ok (.iaload, 1) := by decide +kernel
theorem dX0_takeDiscount_20 : decode cX0_takeDiscount 20 = .ok (.iastore, 1) := by decide +kernel
theorem dX0_takeDiscount_21 : decode cX0_takeDiscount 21 = .ok (.aload_n 0, 1) := by decide +kernel
theorem dX0_takeDiscount_22 : decode cX0_takeDiscount 22 = .ok (.getfield 33, 3) := by decide +kernel
theorem dX0_takeDiscount_25 : decode cX0_takeDiscount 25 = .ok (.iload_n 1, 1) := by decide +kernel
theorem dX0_takeDiscount_26 : decode cX0_takeDiscount 26 = .ok (.iload_n 2, 1) := by decide +kernel
theorem dX0_takeDiscount_27 : decode cX0_takeDiscount 27 = .ok (.iastore, 1) := by decide +kernel
theorem dX0_takeDiscount_28 : decode cX0_takeDiscount 28 = .ok (.return_, 1) := by decide +kernel
theorem dX0_disputeRest_0 : decode cX0_disputeRest 0 = .ok (.aload_n 0, 1) := by decide +kernel
theorem dX0_disputeRest_1 : decode cX0_disputeRest 1 = .ok (.getfield 36, 3) := by decide +kernel
theorem dX0_disputeRest_4 : decode cX0_disputeRest 4 = .ok (.iload_n 1, 1) := by decide +kernel
theorem dX0_disputeRest_5 : decode cX0_disputeRest 5 = .ok (.dup2, 1) := by decide +kernel
theorem dX0_disputeRest_6 : decode cX0_disputeRest 6 = .ok (.iaload, 1) := by decide +kernel
theorem dX0_disputeRest_7 : decode cX0_disputeRest 7 = .ok (.aload_n 0, 1) := by decide +kernel
theorem dX0_disputeRest_8 : decode cX0_disputeRest 8 = .ok (.iload_n 1, 1) := by decide +kernel
theorem dX0_disputeRest_9 : decode cX0_disputeRest 9 = .ok (.invokevirtual 49, 3) := by decide +kernel
theorem dX0_disputeRest_12 : decode cX0_disputeRest 12 = .ok (.iadd, 1) := by decide +kernel
theorem dX0_disputeRest_13 : decode cX0_disputeRest 13 = .ok (.iastore, 1) := by decide +kernel
theorem dX0_disputeRest_14 : decode cX0_disputeRest 14 = .ok (.aload_n 0, 1) := by decide +kernel
theorem dX0_disputeRest_15 : decode cX0_disputeRest 15 = .ok (.getfield 39, 3) := by decide +kernel
theorem dX0_disputeRest_18 : decode cX0_disputeRest 18 = .ok (.iload_n 1, 1) := by decide +kernel
theorem dX0_disputeRest_19 : decode cX0_disputeRest 19 = .ok (.iload_n 2, 1) := by decide +kernel
theorem dX0_disputeRest_20 : decode cX0_disputeRest 20 = .ok (.iastore, 1) := by decide +kernel
theorem dX0_disputeRest_21 : decode cX0_disputeRest 21 = .ok (.return_, 1) := by decide +kernel
theorem dX0_endDispute_0 : decode cX0_endDispute 0 = .ok (.aload_n 0, 1) := by decide +kernel
theorem dX0_endDispute_1 : decode cX0_endDispute 1 = .ok (.getfield 36, 3) := by decide +kernel
theorem dX0_endDispute_4 : decode cX0_endDispute 4 = .ok (.iload_n 1, 1) := by decide +kernel
theorem dX0_endDispute_5 : decode cX0_endDispute 5 = .ok (.iaload, 1) := by decide +kernel
theorem dX0_endDispute_6 : decode cX0_endDispute 6 = .ok (.istore_n 3, 1) := by decide +kernel
theorem dX0_endDispute_7 : decode cX0_endDispute 7 = .ok (.iload_n 2, 1) := by decide +kernel
theorem dX0_endDispute_8 : decode cX0_endDispute 8 = .ok (.ifCond .eq 13, 3) := by decide +kernel
theorem dX0_endDispute_11 : decode cX0_endDispute 11 = .ok (.aload_n 0, 1) := by decide +kernel
theorem dX0_endDispute_12 : decode cX0_endDispute 12 = .ok (.getfield 42, 3) := by decide +kernel
theorem dX0_endDispute_15 : decode cX0_endDispute 15 = .ok (.iload_n 1, 1) := by decide +kernel
theorem dX0_endDispute_16 : decode cX0_endDispute 16 = .ok (.dup2, 1) := by decide +kernel
theorem dX0_endDispute_17 : decode cX0_endDispute 17 = .ok (.iaload, 1) := by decide +kernel
theorem dX0_endDispute_18 : decode cX0_endDispute 18 = .ok (.iload_n 3, 1) := by decide +kernel
theorem dX0_endDispute_19 : decode cX0_endDispute 19 = .ok (.iadd, 1) := by decide +kernel
theorem dX0_endDispute_20 : decode cX0_endDispute 20 = .ok (.iastore, 1) := by decide +kernel
theorem dX0_endDispute_21 : decode cX0_endDispute 21 = .ok (.aload_n 0, 1) := by decide +kernel
theorem dX0_endDispute_22 : decode cX0_endDispute 22 = .ok (.getfield 36, 3) := by decide +kernel
theorem dX0_endDispute_25 : decode cX0_endDispute 25 = .ok (.iload_n 1, 1) := by decide +kernel
theorem dX0_endDispute_26 : decode cX0_endDispute 26 = .ok (.iconst 0, 1) := by decide +kernel
theorem dX0_endDispute_27 : decode cX0_endDispute 27 = .ok (.iastore, 1) := by decide +kernel
theorem dX0_endDispute_28 : decode cX0_endDispute 28 = .ok (.aload_n 0, 1) := by decide +kernel
theorem dX0_endDispute_29 : decode cX0_endDispute 29 = .ok (.getfield 39, 3) := by decide +kernel
theorem dX0_endDispute_32 : decode cX0_endDispute 32 = .ok (.iload_n 1, 1) := by decide +kernel
theorem dX0_endDispute_33 : decode cX0_endDispute 33 = .ok (.iconst (-1), 1) := by decide +kernel
theorem dX0_endDispute_34 : decode cX0_endDispute 34 = .ok (.iastore, 1) := by decide +kernel
theorem dX0_endDispute_35 : decode cX0_endDispute 35 = .ok (.iload_n 3, 1) := by decide +kernel
theorem dX0_endDispute_36 : decode cX0_endDispute 36 = .ok (.ireturn, 1) := by decide +kernel
theorem dX0_undo_0 : decode cX0_undo 0 = .ok (.aload_n 0, 1) := by decide +kernel
theorem dX0_undo_1 : decode cX0_undo 1 = .ok (.getfield 27, 3) := by decide +kernel
theorem dX0_undo_4 : decode cX0_undo 4 = .ok (.iload_n 1, 1) := by decide +kernel
theorem dX0_undo_5 : decode cX0_undo 5 = .ok (.dup2, 1) := by decide +kernel
theorem dX0_undo_6 : decode cX0_undo 6 = .ok (.iaload, 1) := by decide +kernel
theorem dX0_undo_7 : decode cX0_undo 7 = .ok (.iload_n 3, 1) := by decide +kernel
theorem dX0_undo_8 : decode cX0_undo 8 = .ok (.isub, 1) := by decide +kernel
theorem dX0_undo_9 : decode cX0_undo 9 = .ok (.iastore, 1) := by decide +kernel
theorem dX0_undo_10 : decode cX0_undo 10 = .ok (.aload_n 0, 1) := by decide +kernel
theorem dX0_undo_11 : decode cX0_undo 11 = .ok (.getfield 33, 3) := by decide +kernel
theorem dX0_undo_14 : decode cX0_undo 14 = .ok (.iload_n 1, 1) := by decide +kernel
theorem dX0_undo_15 : decode cX0_undo 15 = .ok (.iaload, 1) := by decide +kernel
theorem dX0_undo_16 : decode cX0_undo 16 = .ok (.iload_n 2, 1) := by decide +kernel
theorem dX0_undo_17 : decode cX0_undo 17 = .ok (.if_icmp .ne 17, 3) := by decide +kernel
theorem dX0_undo_20 : decode cX0_undo 20 = .ok (.aload_n 0, 1) := by decide +kernel
theorem dX0_undo_21 : decode cX0_undo 21 = .ok (.getfield 30, 3) := by decide +kernel
theorem dX0_undo_24 : decode cX0_undo 24 = .ok (.iload_n 1, 1) := by decide +kernel
theorem dX0_undo_25 : decode cX0_undo 25 = .ok (.iconst 0, 1) := by decide +kernel
theorem dX0_undo_26 : decode cX0_undo 26 = .ok (.iastore, 1) := by decide +kernel
theorem dX0_undo_27 : decode cX0_undo 27 = .ok (.aload_n 0, 1) := by decide +kernel
theorem dX0_undo_28 : decode cX0_undo 28 = .ok (.getfield 33, 3) := by decide +kernel
theorem dX0_undo_31 : decode cX0_undo 31 = .ok (.iload_n 1, 1) := by decide +kernel
theorem dX0_undo_32 : decode cX0_undo 32 = .ok (.iconst (-1), 1) := by decide +kernel
theorem dX0_undo_33 : decode cX0_undo 33 = .ok (.iastore, 1) := by decide +kernel
theorem dX0_undo_34 : decode cX0_undo 34 = .ok (.aload_n 0, 1) := by decide +kernel
theorem dX0_undo_35 : decode cX0_undo 35 = .ok (.getfield 39, 3) := by decide +kernel
theorem dX0_undo_38 : decode cX0_undo 38 = .ok (.iload_n 1, 1) := by decide +kernel
theorem dX0_undo_39 : decode cX0_undo 39 = .ok (.iaload, 1) := by decide +kernel
theorem dX0_undo_40 : decode cX0_undo 40 = .ok (.iload_n 2, 1) := by decide +kernel
theorem dX0_undo_41 : decode cX0_undo 41 = .ok (.if_icmp .ne 10, 3) := by decide +kernel
theorem dX0_undo_44 : decode cX0_undo 44 = .ok (.aload_n 0, 1) := by decide +kernel
theorem dX0_undo_45 : decode cX0_undo 45 = .ok (.iload_n 1, 1) := by decide +kernel
theorem dX0_undo_46 : decode cX0_undo 46 = .ok (.iconst 0, 1) := by decide +kernel
theorem dX0_undo_47 : decode cX0_undo 47 = .ok (.invokevirtual 57, 3) := by decide +kernel
theorem dX0_undo_50 : decode cX0_undo 50 = .ok (.pop, 1) := by decide +kernel
theorem dX0_undo_51 : decode cX0_undo 51 = .ok (.return_, 1) := by decide +kernel

def b2 (P : Prop) [Decidable P] : Int32 := if P then 1 else 0
theorem b2_0 {P : Prop} [Decidable P] (h : b2 P = 0) : ¬ P := by
  intro z
  simp [b2, z] at h
theorem b2_1 {P : Prop} [Decidable P] (h : ¬ b2 P = 0) : P := by
  by_cases z : P
  · exact z
  · simp [b2, z] at h
theorem b2_n {P : Prop} [Decidable P] : narrow .boolean (.int (b2 P)) = .int (b2 P) := by
  by_cases z : P <;> simp [b2, z] <;> decide
/-- what stands of a bill -/
def opn (B : Nat → Nat → Int32) (i : Nat) : Int32 := B 1 i - B 5 i - B 6 i - B 8 i - B 10 i
def dueN (B : Nat → Nat → Int32) (i : Nat) (dy : Int32) : Int32 := if opn B i = B 1 i ∧ ¬ B 4 i < dy then opn B i - B 3 i else opn B i
def nmd (B : Nat → Nat → Int32) (rf : Int32) : Nat → Nat → Int32
  | 0, _ => -1
  | k + 1, i => if B 2 i = rf ∧ ¬ opn B i ≤ 0 then B 0 i else nmd B rf k (i + 1)
def tkD (B : Nat → Nat → Int32) (i : Nat) (rc dy : Int32) : Nat → Nat → Int32 := if opn B i = B 1 i ∧ ¬ B 4 i < dy then pt (pt B 6 i (B 3 i)) 7 i rc else B
def dsp (B : Nat → Nat → Int32) (i : Nat) (rc : Int32) : Nat → Nat → Int32 := pt (pt B 8 i (B 8 i + opn B i)) 9 i rc
def edD (B : Nat → Nat → Int32) (i : Nat) (zz : Int32) : Nat → Nat → Int32 := if zz = 0 then pt (pt B 8 i 0) 9 i (-1) else pt (pt (pt B 10 i (B 10 i + B 8 i)) 8 i 0) 9 i (-1)
def und1 (B : Nat → Nat → Int32) (i : Nat) (rc sm : Int32) : Nat → Nat → Int32 := if B 7 i = rc then pt (pt (pt B 5 i (B 5 i - sm)) 6 i 0) 7 i (-1) else pt B 5 i (B 5 i - sm)
def und2 (B : Nat → Nat → Int32) (i : Nat) (rc : Int32) : Nat → Nat → Int32 := if B 9 i = rc then edD B i 0 else B
def und (B : Nat → Nat → Int32) (i : Nat) (rc sm : Int32) : Nat → Nat → Int32 := und2 (und1 B i rc sm) i rc
def addB (B : Nat → Nat → Int32) (n : Nat) (cu am rf di un : Int32) : Nat → Nat → Int32 := pt (pt (pt (pt (pt (pt (pt (pt B 0 n cu) 1 n am) 2 n rf) 3 n di) 4 n un) 7 n (-1)) 9 n (-1)) 11 0 (nI (n + 1))
set_option maxHeartbeats 4000000 in
set_option maxRecDepth 100000 in
theorem c_X0_openSum (l : Launch) (D : va_G) (cI cZ : ClassId) (a : Nat → Nat) (sz : Nat) (B : Nat → Nat → Int32) (i : Nat) (hi : i < 40) : Met l yX0_openSum wsX0_openSum ({ frames := 0, cells := 0, slots := 0, locals := 0 } : Room) (va_Pc [.ref (a 1), .int (nI (i))] (PreW D cI cZ (wBB a cI B) sz)) (va_Qi (fun (r : Int32) (u : Unit) => r = opn B i) (fun (u : Unit) => PostW D cI cZ (va_A (wBB a cI B) sz) (wBB a cI B)) (va_A (wBB a cI B) sz)) 0 0 (va_A (wBB a cI B) sz) := by
  refine Met.ofW (cc := cX0_openSum) (maxL := 2) (ret := (some .int)) (by decide) rfl ?_
  intro p e s m args below meth c s₁ BB hml hv
  obtain ⟨rfl, hsz, hP, hK, hD0⟩ := hv
  have hx := BB.exec
  have hb := BB.bytes
  have hr := BB.returns
  have hts := atoms_spec (ws := wsX0_openSum) BB.pre
  have hown : s.vm.findClass RX0 = some m.cls := findClass_of_methodNamed BB.named
  have hlocks := BB.notSynchronized
  clear BB
  subst hsz
  have hD := hD0.self (sz := s.heap.size)
  clear hD0
  generalize hAe : va_A (wBB a cI B) s.heap.size = A at hD ⊢
  have hA : ∀ q : Nat, s.heap.size ≤ q → A q := fun q h => by rw [← hAe]; exact Or.inr h
  clear hAe
  have hS : va_S A s.heap s.heap [] := va_S.rf
  have hl := lv_entry ([.ref (a 1), .int (nI (i))]) (n := 2) (Nat.le_of_ble_eq_true rfl)
  rw [lg_entry_eq]
  generalize (lg_sl ([.ref (a 1), .int (nI (i))]) ++ List.replicate (2 - (lg_sl ([.ref (a 1), .int (nI (i))])).length) Slot.unset).toArray = ls at hl ⊢
  have hl : lv_has ls 2 [(0, .ref (a 1)), (1, .int (nI (i)))] := hl
  generalize hHe : s.heap = H at hP
  have hS : va_S A s.heap H [] := by rw [← hHe]; exact va_S.rf
  clear hHe
  generalize hLe : ([] : List Loc) = locs at hS ⊢
  clear hLe
  refine lv_aload_n hx hb dX0_openSum_0 rfl (lv_at hl 0 rfl) ?_
  refine va_get (D := D) (ci := 0) (v := .ref (a 3)) (C := RX0) (T := TX0) (N := 12) hx hb hts (fun w h => List.mem_cons_of_mem _ (List.mem_append_right _ h)) hown hK hP 0 rfl rfl 1 (by decide) (hts (.fieldLink RX0 15 "CashAllocator$BillBook" "amount" "[I") (by decide +kernel)) (fun _ h9 => h9) rfl dX0_openSum_1 ?_
  refine lv_iload_n hx hb dX0_openSum_4 rfl (lv_at hl 1 rfl) ?_
  refine zald hx hb hK hP 2 (n := 40) (f := (B 1)) rfl (i) rfl (by omega) (by decide) dX0_openSum_5 ?_
  refine lv_aload_n hx hb dX0_openSum_6 rfl (lv_at hl 0 rfl) ?_
  refine va_get (D := D) (ci := 0) (v := .ref (a 7)) (C := RX0) (T := TX0) (N := 12) hx hb hts (fun w h => List.mem_cons_of_mem _ (List.mem_append_right _ h)) hown hK hP 0 rfl rfl 5 (by decide) (hts (.fieldLink RX0 27 "CashAllocator$BillBook" "paid" "[I") (by decide +kernel)) (fun _ h9 => h9) rfl dX0_openSum_7 ?_
  refine lv_iload_n hx hb dX0_openSum_10 rfl (lv_at hl 1 rfl) ?_
  refine zald hx hb hK hP 6 (n := 40) (f := (B 5)) rfl (i) rfl (by omega) (by decide) dX0_openSum_11 ?_
  refine lv_isub hx hb dX0_openSum_12 ?_
  refine lv_aload_n hx hb dX0_openSum_13 rfl (lv_at hl 0 rfl) ?_
  refine va_get (D := D) (ci := 0) (v := .ref (a 8)) (C := RX0) (T := TX0) (N := 12) hx hb hts (fun w h => List.mem_cons_of_mem _ (List.mem_append_right _ h)) hown hK hP 0 rfl rfl 6 (by decide) (hts (.fieldLink RX0 30 "CashAllocator$BillBook" "taken" "[I") (by decide +kernel)) (fun _ h9 => h9) rfl dX0_openSum_14 ?_
  refine lv_iload_n hx hb dX0_openSum_17 rfl (lv_at hl 1 rfl) ?_
  refine zald hx hb hK hP 7 (n := 40) (f := (B 6)) rfl (i) rfl (by omega) (by decide) dX0_openSum_18 ?_
  refine lv_isub hx hb dX0_openSum_19 ?_
  refine lv_aload_n hx hb dX0_openSum_20 rfl (lv_at hl 0 rfl) ?_
  refine va_get (D := D) (ci := 0) (v := .ref (a 10)) (C := RX0) (T := TX0) (N := 12) hx hb hts (fun w h => List.mem_cons_of_mem _ (List.mem_append_right _ h)) hown hK hP 0 rfl rfl 8 (by decide) (hts (.fieldLink RX0 36 "CashAllocator$BillBook" "disputed" "[I") (by decide +kernel)) (fun _ h9 => h9) rfl dX0_openSum_21 ?_
  refine lv_iload_n hx hb dX0_openSum_24 rfl (lv_at hl 1 rfl) ?_
  refine zald hx hb hK hP 9 (n := 40) (f := (B 8)) rfl (i) rfl (by omega) (by decide) dX0_openSum_25 ?_
  refine lv_isub hx hb dX0_openSum_26 ?_
  refine lv_aload_n hx hb dX0_openSum_27 rfl (lv_at hl 0 rfl) ?_
  refine va_get (D := D) (ci := 0) (v := .ref (a 12)) (C := RX0) (T := TX0) (N := 12) hx hb hts (fun w h => List.mem_cons_of_mem _ (List.mem_append_right _ h)) hown hK hP 0 rfl rfl 10 (by decide) (hts (.fieldLink RX0 42 "CashAllocator$BillBook" "writtenOff" "[I") (by decide +kernel)) (fun _ h9 => h9) rfl dX0_openSum_28 ?_
  refine lv_iload_n hx hb dX0_openSum_31 rfl (lv_at hl 1 rfl) ?_
  refine zald hx hb hK hP 11 (n := 40) (f := (B 10)) rfl (i) rfl (by omega) (by decide) dX0_openSum_32 ?_
  refine lv_isub hx hb dX0_openSum_33 ?_
  exact W.iret (v := ((((B 1 (i)) - (B 5 (i))) - (B 6 (i))) - (B 8 (i))) - (B 10 (i))) hx hb hr (fun t ht hW => ⟨⟨((((B 1 (i)) - (B 5 (i))) - (B 6 (i))) - (B 8 (i))) - (B 10 (i)), (), rfl, rfl, by rw [ht]; exact hP, va_K.moved hW.alike hK, hD⟩, hS.F ht⟩) hS.2.2 dX0_openSum_34
set_option maxHeartbeats 4000000 in
set_option maxRecDepth 100000 in
theorem c_X0_isOpenFor (l : Launch) (D : va_G) (cI cZ : ClassId) (a : Nat → Nat) (sz : Nat) (B : Nat → Nat → Int32) (i : Nat) (cu : Int32) (hi : i < 40) : Met l yX0_isOpenFor wsX0_isOpenFor ({ frames := 1, cells := 0, slots := 0, locals := 21 } : Room) (va_Pc [.ref (a 1), .int (nI (i)), .int (cu)] (PreW D cI cZ (wBB a cI B) sz)) (va_Qi (fun (r : Int32) (u : Unit) => r = b2 (B 0 i = cu ∧ ¬ opn B i ≤ 0)) (fun (u : Unit) => PostW D cI cZ (va_A (wBB a cI B) sz) (wBB a cI B)) (va_A (wBB a cI B) sz)) 0 0 (va_A (wBB a cI B) sz) := by
  refine Met.ofW (cc := cX0_isOpenFor) (maxL := 3) (ret := (some .boolean)) (by decide) rfl ?_
  intro p e s m args below meth c s₁ BB hml hv
  obtain ⟨rfl, hsz, hP, hK, hD0⟩ := hv
  have hx := BB.exec
  have hb := BB.bytes
  have hr := BB.returns
  have hts := atoms_spec (ws := wsX0_isOpenFor) BB.pre
  have hown : s.vm.findClass RX0 = some m.cls := findClass_of_methodNamed BB.named
  have hlocks := BB.notSynchronized
  clear BB
  subst hsz
  have hD := hD0.self (sz := s.heap.size)
  clear hD0
  generalize hAe : va_A (wBB a cI B) s.heap.size = A at hD ⊢
  have hA : ∀ q : Nat, s.heap.size ≤ q → A q := fun q h => by rw [← hAe]; exact Or.inr h
  clear hAe
  have hS : va_S A s.heap s.heap [] := va_S.rf
  have hl := lv_entry ([.ref (a 1), .int (nI (i)), .int (cu)]) (n := 3) (Nat.le_of_ble_eq_true rfl)
  rw [lg_entry_eq]
  generalize (lg_sl ([.ref (a 1), .int (nI (i)), .int (cu)]) ++ List.replicate (3 - (lg_sl ([.ref (a 1), .int (nI (i)), .int (cu)])).length) Slot.unset).toArray = ls at hl ⊢
  have hl : lv_has ls 3 [(0, .ref (a 1)), (1, .int (nI (i))), (2, .int (cu))] := hl
  generalize hHe : s.heap = H at hP
  have hS : va_S A s.heap H [] := by rw [← hHe]; exact va_S.rf
  clear hHe
  generalize hLe : ([] : List Loc) = locs at hS ⊢
  clear hLe
  refine lv_aload_n hx hb dX0_isOpenFor_0 rfl (lv_at hl 0 rfl) ?_
  refine va_get (D := D) (ci := 0) (v := .ref (a 2)) (C := RX0) (T := TX0) (N := 12) hx hb hts (fun w h => List.mem_cons_of_mem _ (List.mem_append_right _ h)) hown hK hP 0 rfl rfl 0 (by decide) (hts (.fieldLink RX0 9 "CashAllocator$BillBook" "customer" "[I") (by decide +kernel)) (fun _ h9 => h9) rfl dX0_isOpenFor_1 ?_
  refine lv_iload_n hx hb dX0_isOpenFor_4 rfl (lv_at hl 1 rfl) ?_
  refine zald hx hb hK hP 1 (n := 40) (f := (B 0)) rfl (i) rfl (by omega) (by decide) dX0_isOpenFor_5 ?_
  refine lv_iload_n hx hb dX0_isOpenFor_6 rfl (lv_at hl 2 rfl) ?_
  refine lv_icmp_ne (tgt := 22) hx hb dX0_isOpenFor_7 (by decide) (fun c7 => ?_) (fun c7 => ?_)
  · -- 7 taken
    refine lv_iconst (v := 0) hx hb dX0_isOpenFor_22 (by decide) ?_
    exact W.zret (ty := .boolean) (v := 0) hx hb hr (by decide) (fun t ht hW => ⟨⟨0, (), rfl, by simp [b2, c7], by rw [ht]; exact hP, va_K.moved hW.alike hK, hD⟩, hS.F ht⟩) hS.2.2 dX0_isOpenFor_23
  · -- 7 on
    refine lv_aload_n hx hb dX0_isOpenFor_10 rfl (lv_at hl 0 rfl) ?_
    refine lv_iload_n hx hb dX0_isOpenFor_11 rfl (lv_at hl 1 rfl) ?_
    refine zcVi (ci := 0) (q0 := 0) (wf := (fun (u : Unit) => (wBB a cI B))) (List.range 12) ⟨hx, hb, hml, hown, hts⟩ (zwAll 12 (by decide) rfl hP hD hS hA) hK (c_X0_openSum l D cI cZ a H.size (B) (i) (by first | assumption | omega)) (cwV 1 hts gX0_isOpenFor_X0_openSum rfl rfl rfl (by decide +kernel) ⟨Nat.le_of_ble_eq_true rfl, Nat.le_of_ble_eq_true rfl⟩) rfl rfl (by decide) (fun _ => rfl) rfl hl.1 rfl (Nat.le_of_ble_eq_true rfl) dX0_isOpenFor_12 ⟨Nat.le_of_ble_eq_true rfl, Nat.le_of_ble_eq_true rfl⟩ (fun r12 u H locs hw hP hD hS => ?_)
    subst hw
    refine lv_if_le (tgt := 22) hx hb dX0_isOpenFor_15 (by decide) (fun c15 => ?_) (fun c15 => ?_)
    · -- 15 taken
      refine lv_iconst (v := 0) hx hb dX0_isOpenFor_22 (by decide) ?_
      exact W.zret (ty := .boolean) (v := 0) hx hb hr (by decide) (fun t ht hW => ⟨⟨0, (), rfl, by simp [b2, c7, c15], by rw [ht]; exact hP, va_K.moved hW.alike hK, hD⟩, hS.F ht⟩) hS.2.2 dX0_isOpenFor_23
    · -- 15 on
      refine lv_iconst (v := 1) hx hb dX0_isOpenFor_18 (by decide) ?_
      refine lv_goto (tgt := 23) hx hb dX0_isOpenFor_19 (by decide) ?_
      exact W.zret (ty := .boolean) (v := 1) hx hb hr (by decide) (fun t ht hW => ⟨⟨1, (), rfl, by simp [b2, c7, c15], by rw [ht]; exact hP, va_K.moved hW.alike hK, hD⟩, hS.F ht⟩) hS.2.2 dX0_isOpenFor_23
set_option maxHeartbeats 4000000 in
set_option maxRecDepth 100000 in
theorem c_X0_allowsDiscount (l : Launch) (D : va_G) (cI cZ : ClassId) (a : Nat → Nat) (sz : Nat) (B : Nat → Nat → Int32) (i : Nat) (dy : Int32) (hi : i < 40) : Met l yX0_allowsDiscount wsX0_allowsDiscount ({ frames := 1, cells := 0, slots := 0, locals := 21 } : Room) (va_Pc [.ref (a 1), .int (nI (i)), .int (dy)] (PreW D cI cZ (wBB a cI B) sz)) (va_Qi (fun (r : Int32) (u : Unit) => r = b2 (opn B i = B 1 i ∧ ¬ B 4 i < dy)) (fun (u : Unit) => PostW D cI cZ (va_A (wBB a cI B) sz) (wBB a cI B)) (va_A (wBB a cI B) sz)) 0 0 (va_A (wBB a cI B) sz) := by
  refine Met.ofW (cc := cX0_allowsDiscount) (maxL := 3) (ret := (some .boolean)) (by decide) rfl ?_
  intro p e s m args below meth c s₁ BB hml hv
  obtain ⟨rfl, hsz, hP, hK, hD0⟩ := hv
  have hx := BB.exec
  have hb := BB.bytes
  have hr := BB.returns
  have hts := atoms_spec (ws := wsX0_allowsDiscount) BB.pre
  have hown : s.vm.findClass RX0 = some m.cls := findClass_of_methodNamed BB.named
  have hlocks := BB.notSynchronized
  clear BB
  subst hsz
  have hD := hD0.self (sz := s.heap.size)
  clear hD0
  generalize hAe : va_A (wBB a cI B) s.heap.size = A at hD ⊢
  have hA : ∀ q : Nat, s.heap.size ≤ q → A q := fun q h => by rw [← hAe]; exact Or.inr h
  clear hAe
  have hS : va_S A s.heap s.heap [] := va_S.rf
  have hl := lv_entry ([.ref (a 1), .int (nI (i)), .int (dy)]) (n := 3) (Nat.le_of_ble_eq_true rfl)
  rw [lg_entry_eq]
  generalize (lg_sl ([.ref (a 1), .int (nI (i)), .int (dy)]) ++ List.replicate (3 - (lg_sl ([.ref (a 1), .int (nI (i)), .int (dy)])).length) Slot.unset).toArray = ls at hl ⊢
  have hl : lv_has ls 3 [(0, .ref (a 1)), (1, .int (nI (i))), (2, .int (dy))] := hl
  generalize hHe : s.heap = H at hP
  have hS : va_S A s.heap H [] := by rw [← hHe]; exact va_S.rf
  clear hHe
  generalize hLe : ([] : List Loc) = locs at hS ⊢
  clear hLe
  refine lv_aload_n hx hb dX0_allowsDiscount_0 rfl (lv_at hl 0 rfl) ?_
  refine lv_iload_n hx hb dX0_allowsDiscount_1 rfl (lv_at hl 1 rfl) ?_
  refine zcVi (ci := 0) (q0 := 0) (wf := (fun (u : Unit) => (wBB a cI B))) (List.range 12) ⟨hx, hb, hml, hown, hts⟩ (zwAll 12 (by decide) rfl hP hD hS hA) hK (c_X0_openSum l D cI cZ a H.size (B) (i) (by first | assumption | omega)) (cwV 1 hts gX0_allowsDiscount_X0_openSum rfl rfl rfl (by decide +kernel) ⟨Nat.le_of_ble_eq_true rfl, Nat.le_of_ble_eq_true rfl⟩) rfl rfl (by decide) (fun _ => rfl) rfl hl.1 rfl (Nat.le_of_ble_eq_true rfl) dX0_allowsDiscount_2 ⟨Nat.le_of_ble_eq_true rfl, Nat.le_of_ble_eq_true rfl⟩ (fun r2 u H locs hw hP hD hS => ?_)
  subst hw
  refine lv_aload_n hx hb dX0_allowsDiscount_5 rfl (lv_at hl 0 rfl) ?_
  refine va_get (D := D) (ci := 0) (v := .ref (a 3)) (C := RX0) (T := TX0) (N := 12) hx hb hts (fun w h => List.mem_cons_of_mem _ (List.mem_append_right _ h)) hown hK hP 0 rfl rfl 1 (by decide) (hts (.fieldLink RX0 15 "CashAllocator$BillBook" "amount" "[I") (by decide +kernel)) (fun _ h9 => h9) rfl dX0_allowsDiscount_6 ?_
  refine lv_iload_n hx hb dX0_allowsDiscount_9 rfl (lv_at hl 1 rfl) ?_
  refine zald hx hb hK hP 2 (n := 40) (f := (B 1)) rfl (i) rfl (by omega) (by decide) dX0_allowsDiscount_10 ?_
  refine lv_icmp_ne (tgt := 28) hx hb dX0_allowsDiscount_11 (by decide) (fun c11 => ?_) (fun c11 => ?_)
  · -- 11 taken
    refine lv_iconst (v := 0) hx hb dX0_allowsDiscount_28 (by decide) ?_
    exact W.zret (ty := .boolean) (v := 0) hx hb hr (by decide) (fun t ht hW => ⟨⟨0, (), rfl, by simp [b2, c11], by rw [ht]; exact hP, va_K.moved hW.alike hK, hD⟩, hS.F ht⟩) hS.2.2 dX0_allowsDiscount_29
  · -- 11 on
    refine lv_iload_n hx hb dX0_allowsDiscount_14 rfl (lv_at hl 2 rfl) ?_
    refine lv_aload_n hx hb dX0_allowsDiscount_15 rfl (lv_at hl 0 rfl) ?_
    refine va_get (D := D) (ci := 0) (v := .ref (a 6)) (C := RX0) (T := TX0) (N := 12) hx hb hts (fun w h => List.mem_cons_of_mem _ (List.mem_append_right _ h)) hown hK hP 0 rfl rfl 4 (by decide) (hts (.fieldLink RX0 24 "CashAllocator$BillBook" "lastDiscountDay" "[I") (by decide +kernel)) (fun _ h9 => h9) rfl dX0_allowsDiscount_16 ?_
    refine lv_iload_n hx hb dX0_allowsDiscount_19 rfl (lv_at hl 1 rfl) ?_
    refine zald hx hb hK hP 5 (n := 40) (f := (B 4)) rfl (i) rfl (by omega) (by decide) dX0_allowsDiscount_20 ?_
    refine lv_icmp_gt (tgt := 28) hx hb dX0_allowsDiscount_21 (by decide) (fun c21 => ?_) (fun c21 => ?_)
    · -- 21 taken
      refine lv_iconst (v := 0) hx hb dX0_allowsDiscount_28 (by decide) ?_
      exact W.zret (ty := .boolean) (v := 0) hx hb hr (by decide) (fun t ht hW => ⟨⟨0, (), rfl, by simp [b2, c11, c21], by rw [ht]; exact hP, va_K.moved hW.alike hK, hD⟩, hS.F ht⟩) hS.2.2 dX0_allowsDiscount_29
    · -- 21 on
      refine lv_iconst (v := 1) hx hb dX0_allowsDiscount_24 (by decide) ?_
      refine lv_goto (tgt := 29) hx hb dX0_allowsDiscount_25 (by decide) ?_
      exact W.zret (ty := .boolean) (v := 1) hx hb hr (by decide) (fun t ht hW => ⟨⟨1, (), rfl, by simp [b2, c11, c21], by rw [ht]; exact hP, va_K.moved hW.alike hK, hD⟩, hS.F ht⟩) hS.2.2 dX0_allowsDiscount_29
set_option maxHeartbeats 4000000 in
set_option maxRecDepth 100000 in
theorem c_X0_dueOn (l : Launch) (D : va_G) (cI cZ : ClassId) (a : Nat → Nat) (sz : Nat) (B : Nat → Nat → Int32) (i : Nat) (dy : Int32) (hi : i < 40) : Met l yX0_dueOn wsX0_dueOn ({ frames := 2, cells := 0, slots := 0, locals := 43 } : Room) (va_Pc [.ref (a 1), .int (nI (i)), .int (dy)] (PreW D cI cZ (wBB a cI B) sz)) (va_Qi (fun (r : Int32) (u : Unit) => r = dueN B i dy) (fun (u : Unit) => PostW D cI cZ (va_A (wBB a cI B) sz) (wBB a cI B)) (va_A (wBB a cI B) sz)) 0 0 (va_A (wBB a cI B) sz) := by
  refine Met.ofW (cc := cX0_dueOn) (maxL := 4) (ret := (some .int)) (by decide) rfl ?_
  intro p e s m args below meth c s₁ BB hml hv
  obtain ⟨rfl, hsz, hP, hK, hD0⟩ := hv
  have hx := BB.exec
  have hb := BB.bytes
  have hr := BB.returns
  have hts := atoms_spec (ws := wsX0_dueOn) BB.pre
  have hown : s.vm.findClass RX0 = some m.cls := findClass_of_methodNamed BB.named
  have hlocks := BB.notSynchronized
  clear BB
  subst hsz
  have hD := hD0.self (sz := s.heap.size)
  clear hD0
  generalize hAe : va_A (wBB a cI B) s.heap.size = A at hD ⊢
  have hA : ∀ q : Nat, s.heap.size ≤ q → A q := fun q h => by rw [← hAe]; exact Or.inr h
  clear hAe
  have hS : va_S A s.heap s.heap [] := va_S.rf
  have hl := lv_entry ([.ref (a 1), .int (nI (i)), .int (dy)]) (n := 4) (Nat.le_of_ble_eq_true rfl)
  rw [lg_entry_eq]
  generalize (lg_sl ([.ref (a 1), .int (nI (i)), .int (dy)]) ++ List.replicate (4 - (lg_sl ([.ref (a 1), .int (nI (i)), .int (dy)])).length) Slot.unset).toArray = ls at hl ⊢
  have hl : lv_has ls 4 [(0, .ref (a 1)), (1, .int (nI (i))), (2, .int (dy))] := hl
  generalize hHe : s.heap = H at hP
  have hS : va_S A s.heap H [] := by rw [← hHe]; exact va_S.rf
  clear hHe
  generalize hLe : ([] : List Loc) = locs at hS ⊢
  clear hLe
  refine lv_aload_n hx hb dX0_dueOn_0 rfl (lv_at hl 0 rfl) ?_
  refine lv_iload_n hx hb dX0_dueOn_1 rfl (lv_at hl 1 rfl) ?_
  refine zcVi (ci := 0) (q0 := 0) (wf := (fun (u : Unit) => (wBB a cI B))) (List.range 12) ⟨hx, hb, hml, hown, hts⟩ (zwAll 12 (by decide) rfl hP hD hS hA) hK (c_X0_openSum l D cI cZ a H.size (B) (i) (by first | assumption | omega)) (cwV 1 hts gX0_dueOn_X0_openSum rfl rfl rfl (by decide +kernel) ⟨Nat.le_of_ble_eq_true rfl, Nat.le_of_ble_eq_true rfl⟩) rfl rfl (by decide) (fun _ => rfl) rfl hl.1 rfl (Nat.le_of_ble_eq_true rfl) dX0_dueOn_2 ⟨Nat.le_of_ble_eq_true rfl, Nat.le_of_ble_eq_true rfl⟩ (fun r2 u H locs hw hP hD hS => ?_)
  subst hw
  refine lv_istore_n (lv' := [(3, .int (opn (B) (i))), (0, .ref (a 1)), (1, .int (nI (i))), (2, .int (dy))]) hx hb dX0_dueOn_5 rfl hl (by decide) rfl (fun ls hl => ?_)
  refine lv_aload_n hx hb dX0_dueOn_6 rfl (lv_at hl 1 rfl) ?_
  refine lv_iload_n hx hb dX0_dueOn_7 rfl (lv_at hl 2 rfl) ?_
  refine lv_iload_n hx hb dX0_dueOn_8 rfl (lv_at hl 3 rfl) ?_
  refine zcVi (ci := 0) (q0 := 0) (wf := (fun (u : Unit) => (wBB a cI B))) (List.range 12) ⟨hx, hb, hml, hown, hts⟩ (zwAll 12 (by decide) rfl hP hD hS hA) hK (c_X0_allowsDiscount l D cI cZ a H.size (B) (i) (dy) (by first | assumption | omega)) (cwV 2 hts gX0_dueOn_X0_allowsDiscount rfl rfl rfl (by decide +kernel) ⟨Nat.le_of_ble_eq_true rfl, Nat.le_of_ble_eq_true rfl⟩) rfl rfl (by decide) (fun _ => rfl) rfl hl.1 rfl (Nat.le_of_ble_eq_true rfl) dX0_dueOn_9 ⟨Nat.le_of_ble_eq_true rfl, Nat.le_of_ble_eq_true rfl⟩ (fun r9 u H locs hw hP hD hS => ?_)
  subst hw
  refine lv_if_eq (tgt := 26) hx hb dX0_dueOn_12 (by decide) (fun c12 => ?_) (fun c12 => ?_)
  · -- 12 taken
    have c12 := b2_0 c12
    refine lv_iload_n hx hb dX0_dueOn_26 rfl (lv_at hl 0 rfl) ?_
    exact W.iret (v := opn (B) (i)) hx hb hr (fun t ht hW => ⟨⟨opn (B) (i), (), rfl, by simp only [dueN]; first | rw [if_pos c12] | rw [if_neg c12], by rw [ht]; exact hP, va_K.moved hW.alike hK, hD⟩, hS.F ht⟩) hS.2.2 dX0_dueOn_27
  · -- 12 on
    have c12 := b2_1 c12
    refine lv_iload_n hx hb dX0_dueOn_15 rfl (lv_at hl 0 rfl) ?_
    refine lv_aload_n hx hb dX0_dueOn_16 rfl (lv_at hl 1 rfl) ?_
    refine va_get (D := D) (ci := 0) (v := .ref (a 5)) (C := RX0) (T := TX0) (N := 12) hx hb hts (fun w h => List.mem_cons_of_mem _ (List.mem_append_right _ h)) hown hK hP 0 rfl rfl 3 (by decide) (hts (.fieldLink RX0 21 "CashAllocator$BillBook" "discount" "[I") (by decide +kernel)) (fun _ h9 => h9) rfl dX0_dueOn_17 ?_
    refine lv_iload_n hx hb dX0_dueOn_20 rfl (lv_at hl 2 rfl) ?_
    refine zald hx hb hK hP 4 (n := 40) (f := (B 3)) rfl (i) rfl (by omega) (by decide) dX0_dueOn_21 ?_
    refine lv_isub hx hb dX0_dueOn_22 ?_
    refine lv_goto (tgt := 27) hx hb dX0_dueOn_23 (by decide) ?_
    exact W.iret (v := (opn (B) (i)) - (B 3 (i))) hx hb hr (fun t ht hW => ⟨⟨(opn (B) (i)) - (B 3 (i)), (), rfl, by simp only [dueN]; first | rw [if_pos c12] | rw [if_neg c12], by rw [ht]; exact hP, va_K.moved hW.alike hK, hD⟩, hS.F ht⟩) hS.2.2 dX0_dueOn_27
set_option maxHeartbeats 4000000 in
set_option maxRecDepth 100000 in
theorem c_X0_customerNamedBy (l : Launch) (D : va_G) (cI cZ : ClassId) (a : Nat → Nat) (sz : Nat) (B : Nat → Nat → Int32) (rf : Int32) (n : Nat) (hB : B 11 0 = nI n) (hn : n ≤ 40) : Met l yX0_customerNamedBy wsX0_customerNamedBy ({ frames := 1, cells := 0, slots := 0, locals := 21 } : Room) (va_Pc [.ref (a 1), .int (rf)] (PreW D cI cZ (wBB a cI B) sz)) (va_Qi (fun (r : Int32) (u : Unit) => r = nmd B rf n 0) (fun (u : Unit) => PostW D cI cZ (va_A (wBB a cI B) sz) (wBB a cI B)) (va_A (wBB a cI B) sz)) 0 0 (va_A (wBB a cI B) sz) := by
  refine Met.ofW (cc := cX0_customerNamedBy) (maxL := 3) (ret := (some .int)) (by decide) rfl ?_
  intro p e s m args below meth c s₁ BB hml hv
  obtain ⟨rfl, hsz, hP, hK, hD0⟩ := hv
  have hx := BB.exec
  have hb := BB.bytes
  have hr := BB.returns
  have hts := atoms_spec (ws := wsX0_customerNamedBy) BB.pre
  have hown : s.vm.findClass RX0 = some m.cls := findClass_of_methodNamed BB.named
  have hlocks := BB.notSynchronized
  clear BB
  subst hsz
  have hD := hD0.self (sz := s.heap.size)
  clear hD0
  generalize hAe : va_A (wBB a cI B) s.heap.size = A at hD ⊢
  have hA : ∀ q : Nat, s.heap.size ≤ q → A q := fun q h => by rw [← hAe]; exact Or.inr h
  clear hAe
  have hS : va_S A s.heap s.heap [] := va_S.rf
  have hl := lv_entry ([.ref (a 1), .int (rf)]) (n := 3) (Nat.le_of_ble_eq_true rfl)
  rw [lg_entry_eq]
  generalize (lg_sl ([.ref (a 1), .int (rf)]) ++ List.replicate (3 - (lg_sl ([.ref (a 1), .int (rf)])).length) Slot.unset).toArray = ls at hl ⊢
  have hl : lv_has ls 3 [(0, .ref (a 1)), (1, .int (rf))] := hl
  generalize hHe : s.heap = H at hP
  have hS : va_S A s.heap H [] := by rw [← hHe]; exact va_S.rf
  clear hHe
  generalize hLe : ([] : List Loc) = locs at hS ⊢
  clear hLe
  refine lv_iconst (v := nI (0)) hx hb dX0_customerNamedBy_0 (by decide) ?_
  refine lv_istore_n (lv' := [(2, .int (nI (0))), (0, .ref (a 1)), (1, .int (rf))]) hx hb dX0_customerNamedBy_1 rfl hl (by decide) rfl (fun ls hl => ?_)
  have loop2 : ∀ (fu : Nat) (i : Nat) (hin : i ≤ n) (hg : nmd B rf n 0 = nmd B rf (n - i) i) (hfu : n - i < fu) (H : Heap) (locs : List Loc) (hP : va_P D vwCl (wBB a cI B) H) (hD : va_D A (wBB a cI B)) (hS : va_S A s.heap H locs) (ls : Array Slot) (hl : lv_has ls 3 [(2, .int (nI (i))), (0, .ref (a 1)), (1, .int (rf))]), W p l e (headSpec wsX0_customerNamedBy ({ frames := 1, cells := 0, slots := 0, locals := 21 } : Room)).room s m ([.ref (a 1), .int (rf)] : List Value).toArray below meth c H locs 0 0 (MQ below (va_Qi (fun (r : Int32) (u : Unit) => r = nmd B rf n 0) (fun (u : Unit) => PostW D cI cZ A (wBB a cI B)) A) ([.ref (a 1), .int (rf)] : List Value).toArray s 0 0 A) (F0 m 2 ls []) := by
    clear hP hD hS hl
    intro fu2
    induction fu2 with
    | zero => intro i hin hg hfu; exact absurd hfu (Nat.not_lt_zero _)
    | succ fu2 ih2 =>
      intro i hin hg hfu H locs hP hD hS ls hl
      refine lv_iload_n hx hb dX0_customerNamedBy_2 rfl (lv_at hl 0 rfl) ?_
      refine lv_aload_n hx hb dX0_customerNamedBy_3 rfl (lv_at hl 1 rfl) ?_
      refine va_get (D := D) (ci := 0) (v := .int (nI (n))) (C := RX0) (T := TX0) (N := 12) hx hb hts (fun w h => List.mem_cons_of_mem _ (List.mem_append_right _ h)) hown hK hP 0 rfl rfl 11 (by decide) (hts (.fieldLink RX0 45 "CashAllocator$BillBook" "count" "I") (by decide +kernel)) (fun _ h9 => h9) (congrArg (fun z => some (Value.int z)) hB) dX0_customerNamedBy_4 ?_
      refine lv_icmp_ge (tgt := 41) hx hb dX0_customerNamedBy_7 (by decide) (fun c7 => ?_) (fun c7 => ?_)
      · -- 7 taken
        rw [nI_leI (by omega) (by omega)] at c7
        refine lv_iconst (v := (-1)) hx hb dX0_customerNamedBy_41 (by decide) ?_
        have hfin : (-1 : Int32) = nmd B rf n 0 := by rw [hg, show n - i = 0 by omega]; rfl
        exact W.iret (v := (-1)) hx hb hr (fun t ht hW => ⟨⟨(-1), (), rfl, hfin, by rw [ht]; exact hP, va_K.moved hW.alike hK, hD⟩, hS.F ht⟩) hS.2.2 dX0_customerNamedBy_42
      · -- 7 on
        rw [nI_leI (by omega) (by omega)] at c7
        have c7 : i < n := by omega
        have hk : n - i = (n - (i + 1)) + 1 := by omega
        rw [hk] at hg
        refine lv_aload_n hx hb dX0_customerNamedBy_10 rfl (lv_at hl 1 rfl) ?_
        refine va_get (D := D) (ci := 0) (v := .ref (a 4)) (C := RX0) (T := TX0) (N := 12) hx hb hts (fun w h => List.mem_cons_of_mem _ (List.mem_append_right _ h)) hown hK hP 0 rfl rfl 2 (by decide) (hts (.fieldLink RX0 18 "CashAllocator$BillBook" "reference" "[I") (by decide +kernel)) (fun _ h9 => h9) rfl dX0_customerNamedBy_11 ?_
        refine lv_iload_n hx hb dX0_customerNamedBy_14 rfl (lv_at hl 0 rfl) ?_
        refine zald hx hb hK hP 3 (n := 40) (f := (B 2)) rfl (i) rfl (by omega) (by decide) dX0_customerNamedBy_15 ?_
        refine lv_iload_n hx hb dX0_customerNamedBy_16 rfl (lv_at hl 2 rfl) ?_
        refine lv_icmp_ne (tgt := 35) hx hb dX0_customerNamedBy_17 (by decide) (fun c17 => ?_) (fun c17 => ?_)
        · -- 17 taken
          have hg2 : nmd B rf n 0 = nmd B rf (n - (i + 1)) (i + 1) := by rw [hg, nmd, if_neg (fun z => c17 z.1)]
          refine lv_iinc (v := nI (i + 1)) (lv' := [(2, .int (nI (i + 1))), (0, .ref (a 1)), (1, .int (rf))]) hx hb dX0_customerNamedBy_35 hl (k := 0) rfl (nI_1 _) (by decide) rfl (fun ls hl => ?_)
          refine lv_goto (tgt := 2) hx hb dX0_customerNamedBy_38 (by decide) ?_
          exact ih2 (i + 1) (by omega) hg2 (by omega) _ _ hP hD hS _ (lv_sub hl [0, 1, 2] rfl)
        · -- 17 on
          refine lv_aload_n hx hb dX0_customerNamedBy_20 rfl (lv_at hl 1 rfl) ?_
          refine lv_iload_n hx hb dX0_customerNamedBy_21 rfl (lv_at hl 0 rfl) ?_
          refine zcVi (ci := 0) (q0 := 0) (wf := (fun (u : Unit) => (wBB a cI B))) (List.range 12) ⟨hx, hb, hml, hown, hts⟩ (zwAll 12 (by decide) rfl hP hD hS hA) hK (c_X0_openSum l D cI cZ a H.size (B) (i) (by first | assumption | omega)) (cwV 1 hts gX0_customerNamedBy_X0_openSum rfl rfl rfl (by decide +kernel) ⟨Nat.le_of_ble_eq_true rfl, Nat.le_of_ble_eq_true rfl⟩) rfl rfl (by decide) (fun _ => rfl) rfl hl.1 rfl (Nat.le_of_ble_eq_true rfl) dX0_customerNamedBy_22 ⟨Nat.le_of_ble_eq_true rfl, Nat.le_of_ble_eq_true rfl⟩ (fun r22 u H locs hw hP hD hS => ?_)
          subst hw
          refine lv_if_le (tgt := 35) hx hb dX0_customerNamedBy_25 (by decide) (fun c25 => ?_) (fun c25 => ?_)
          · -- 25 taken
            have hg2 : nmd B rf n 0 = nmd B rf (n - (i + 1)) (i + 1) := by rw [hg, nmd, if_neg (fun z => z.2 c25)]
            refine lv_iinc (v := nI (i + 1)) (lv' := [(2, .int (nI (i + 1))), (0, .ref (a 1)), (1, .int (rf))]) hx hb dX0_customerNamedBy_35 hl (k := 0) rfl (nI_1 _) (by decide) rfl (fun ls hl => ?_)
            refine lv_goto (tgt := 2) hx hb dX0_customerNamedBy_38 (by decide) ?_
            exact ih2 (i + 1) (by omega) hg2 (by omega) _ _ hP hD hS _ (lv_sub hl [0, 1, 2] rfl)
          · -- 25 on
            refine lv_aload_n hx hb dX0_customerNamedBy_28 rfl (lv_at hl 1 rfl) ?_
            refine va_get (D := D) (ci := 0) (v := .ref (a 2)) (C := RX0) (T := TX0) (N := 12) hx hb hts (fun w h => List.mem_cons_of_mem _ (List.mem_append_right _ h)) hown hK hP 0 rfl rfl 0 (by decide) (hts (.fieldLink RX0 9 "CashAllocator$BillBook" "customer" "[I") (by decide +kernel)) (fun _ h9 => h9) rfl dX0_customerNamedBy_29 ?_
            refine lv_iload_n hx hb dX0_customerNamedBy_32 rfl (lv_at hl 0 rfl) ?_
            refine zald hx hb hK hP 1 (n := 40) (f := (B 0)) rfl (i) rfl (by omega) (by decide) dX0_customerNamedBy_33 ?_
            have hfin : B 0 i = nmd B rf n 0 := by rw [hg, nmd, if_pos ⟨by simpa using c17, c25⟩]
            exact W.iret (v := B 0 (i)) hx hb hr (fun t ht hW => ⟨⟨B 0 (i), (), rfl, hfin, by rw [ht]; exact hP, va_K.moved hW.alike hK, hD⟩, hS.F ht⟩) hS.2.2 dX0_customerNamedBy_34
  exact loop2 _ (0) (Nat.zero_le _) (by rw [Nat.sub_zero]) (Nat.lt_succ_self _) _ _ hP hD hS _ (lv_sub hl [0, 1, 2] rfl)
set_option maxHeartbeats 4000000 in
set_option maxRecDepth 100000 in
theorem c_X0_takeDiscount (l : Launch) (D : va_G) (cI cZ : ClassId) (a : Nat → Nat) (sz : Nat) (B : Nat → Nat → Int32) (i : Nat) (rc : Int32) (dy : Int32) (hi : i < 40) : Met l yX0_takeDiscount wsX0_takeDiscount ({ frames := 2, cells := 0, slots := 0, locals := 43 } : Room) (va_Pc [.ref (a 1), .int (nI (i)), .int (rc), .int (dy)] (PreW D cI cZ (wBB a cI B) sz)) (va_Qv (fun (u : Nat → Nat → Int32) => u = tkD B i rc dy) (fun (u : Nat → Nat → Int32) => PostW D cI cZ (va_A (wBB a cI B) sz) (wBB a cI u)) (va_A (wBB a cI B) sz)) 0 0 (va_A (wBB a cI B) sz) := by
  refine Met.ofW (cc := cX0_takeDiscount) (maxL := 4) (ret := none) (by decide) rfl ?_
  intro p e s m args below meth c s₁ BB hml hv
  obtain ⟨rfl, hsz, hP, hK, hD0⟩ := hv
  have hx := BB.exec
  have hb := BB.bytes
  have hr := BB.returns
  have hts := atoms_spec (ws := wsX0_takeDiscount) BB.pre
  have hown : s.vm.findClass RX0 = some m.cls := findClass_of_methodNamed BB.named
  have hlocks := BB.notSynchronized
  clear BB
  subst hsz
  have hD := hD0.self (sz := s.heap.size)
  clear hD0
  generalize hAe : va_A (wBB a cI B) s.heap.size = A at hD ⊢
  have hA : ∀ q : Nat, s.heap.size ≤ q → A q := fun q h => by rw [← hAe]; exact Or.inr h
  clear hAe
  have hS : va_S A s.heap s.heap [] := va_S.rf
  have hl := lv_entry ([.ref (a 1), .int (nI (i)), .int (rc), .int (dy)]) (n := 4) (Nat.le_of_ble_eq_true rfl)
  rw [lg_entry_eq]
  generalize (lg_sl ([.ref (a 1), .int (nI (i)), .int (rc), .int (dy)]) ++ List.replicate (4 - (lg_sl ([.ref (a 1), .int (nI (i)), .int (rc), .int (dy)])).length) Slot.unset).toArray = ls at hl ⊢
  have hl : lv_has ls 4 [(0, .ref (a 1)), (1, .int (nI (i))), (2, .int (rc)), (3, .int (dy))] := hl
  generalize hHe : s.heap = H at hP
  have hS : va_S A s.heap H [] := by rw [← hHe]; exact va_S.rf
  clear hHe
  generalize hLe : ([] : List Loc) = locs at hS ⊢
  clear hLe
  refine lv_aload_n hx hb dX0_takeDiscount_0 rfl (lv_at hl 0 rfl) ?_
  refine lv_iload_n hx hb dX0_takeDiscount_1 rfl (lv_at hl 1 rfl) ?_
  refine lv_iload_n hx hb dX0_takeDiscount_2 rfl (lv_at hl 3 rfl) ?_
  refine zcVi (ci := 0) (q0 := 0) (wf := (fun (u : Unit) => (wBB a cI B))) (List.range 12) ⟨hx, hb, hml, hown, hts⟩ (zwAll 12 (by decide) rfl hP hD hS hA) hK (c_X0_allowsDiscount l D cI cZ a H.size (B) (i) (dy) (by first | assumption | omega)) (cwV 2 hts gX0_takeDiscount_X0_allowsDiscount rfl rfl rfl (by decide +kernel) ⟨Nat.le_of_ble_eq_true rfl, Nat.le_of_ble_eq_true rfl⟩) rfl rfl (by decide) (fun _ => rfl) rfl hl.1 rfl (Nat.le_of_ble_eq_true rfl) dX0_takeDiscount_3 ⟨Nat.le_of_ble_eq_true rfl, Nat.le_of_ble_eq_true rfl⟩ (fun r3 u H locs hw hP hD hS => ?_)
  subst hw
  refine lv_if_eq (tgt := 28) hx hb dX0_takeDiscount_6 (by decide) (fun c6 => ?_) (fun c6 => ?_)
  · -- 6 taken
    have c6 := b2_0 c6
    exact W.vret hx hb hr (fun t ht hW => ⟨⟨B, rfl, by simp only [tkD]; first | rw [if_pos c6] | rw [if_neg c6], by rw [ht]; exact hP, va_K.moved hW.alike hK, hD⟩, hS.F ht⟩) hS.2.2 dX0_takeDiscount_28
  · -- 6 on
    have c6 := b2_1 c6
    refine lv_aload_n hx hb dX0_takeDiscount_9 rfl (lv_at hl 0 rfl) ?_
    refine va_get (D := D) (ci := 0) (v := .ref (a 8)) (C := RX0) (T := TX0) (N := 12) hx hb hts (fun w h => List.mem_cons_of_mem _ (List.mem_append_right _ h)) hown hK hP 0 rfl rfl 6 (by decide) (hts (.fieldLink RX0 30 "CashAllocator$BillBook" "taken" "[I") (by decide +kernel)) (fun _ h9 => h9) rfl dX0_takeDiscount_10 ?_
    refine lv_iload_n hx hb dX0_takeDiscount_13 rfl (lv_at hl 1 rfl) ?_
    refine lv_aload_n hx hb dX0_takeDiscount_14 rfl (lv_at hl 0 rfl) ?_
    refine va_get (D := D) (ci := 0) (v := .ref (a 5)) (C := RX0) (T := TX0) (N := 12) hx hb hts (fun w h => List.mem_cons_of_mem _ (List.mem_append_right _ h)) hown hK hP 0 rfl rfl 3 (by decide) (hts (.fieldLink RX0 21 "CashAllocator$BillBook" "discount" "[I") (by decide +kernel)) (fun _ h9 => h9) rfl dX0_takeDiscount_15 ?_
    refine lv_iload_n hx hb dX0_takeDiscount_18 rfl (lv_at hl 1 rfl) ?_
    refine zald hx hb hK hP 4 (n := 40) (f := (B 3)) rfl (i) rfl (by omega) (by decide) dX0_takeDiscount_19 ?_
    refine zast hx hb hK hP hD hS 7 (n := 40) (f := (B 6)) rfl (i) rfl (by omega) (by decide) (wBB a cI (pt B 6 (i) (B 3 (i)))) rfl dX0_takeDiscount_20 (fun H locs hP hD hS => ?_)
    refine lv_aload_n hx hb dX0_takeDiscount_21 rfl (lv_at hl 0 rfl) ?_
    refine va_get (D := D) (ci := 0) (v := .ref (a 9)) (C := RX0) (T := TX0) (N := 12) hx hb hts (fun w h => List.mem_cons_of_mem _ (List.mem_append_right _ h)) hown hK hP 0 rfl rfl 7 (by decide) (hts (.fieldLink RX0 33 "CashAllocator$BillBook" "takenBy" "[I") (by decide +kernel)) (fun _ h9 => h9) rfl dX0_takeDiscount_22 ?_
    refine lv_iload_n hx hb dX0_takeDiscount_25 rfl (lv_at hl 1 rfl) ?_
    refine lv_iload_n hx hb dX0_takeDiscount_26 rfl (lv_at hl 2 rfl) ?_
    refine zast hx hb hK hP hD hS 8 (n := 40) (f := (B 7)) rfl (i) rfl (by omega) (by decide) (wBB a cI (pt (pt B 6 (i) (B 3 (i))) 7 (i) (rc))) rfl dX0_takeDiscount_27 (fun H locs hP hD hS => ?_)
    exact W.vret hx hb hr (fun t ht hW => ⟨⟨(pt (pt B 6 (i) (B 3 (i))) 7 (i) (rc)), rfl, by simp only [tkD]; first | rw [if_pos c6] | rw [if_neg c6], by rw [ht]; exact hP, va_K.moved hW.alike hK, hD⟩, hS.F ht⟩) hS.2.2 dX0_takeDiscount_28
set_option maxHeartbeats 4000000 in
set_option maxRecDepth 100000 in
theorem c_X0_disputeRest (l : Launch) (D : va_G) (cI cZ : ClassId) (a : Nat → Nat) (sz : Nat) (B : Nat → Nat → Int32) (i : Nat) (rc : Int32) (hi : i < 40) : Met l yX0_disputeRest wsX0_disputeRest ({ frames := 1, cells := 0, slots := 0, locals := 21 } : Room) (va_Pc [.ref (a 1), .int (nI (i)), .int (rc)] (PreW D cI cZ (wBB a cI B) sz)) (va_Qv (fun (u : Nat → Nat → Int32) => u = dsp B i rc) (fun (u : Nat → Nat → Int32) => PostW D cI cZ (va_A (wBB a cI B) sz) (wBB a cI u)) (va_A (wBB a cI B) sz)) 0 0 (va_A (wBB a cI B) sz) := by
  refine Met.ofW (cc := cX0_disputeRest) (maxL := 3) (ret := none) (by decide) rfl ?_
  intro p e s m args below meth c s₁ BB hml hv
  obtain ⟨rfl, hsz, hP, hK, hD0⟩ := hv
  have hx := BB.exec
  have hb := BB.bytes
  have hr := BB.returns
  have hts := atoms_spec (ws := wsX0_disputeRest) BB.pre
  have hown : s.vm.findClass RX0 = some m.cls := findClass_of_methodNamed BB.named
  have hlocks := BB.notSynchronized
  clear BB
  subst hsz
  have hD := hD0.self (sz := s.heap.size)
  clear hD0
  generalize hAe : va_A (wBB a cI B) s.heap.size = A at hD ⊢
  have hA : ∀ q : Nat, s.heap.size ≤ q → A q := fun q h => by rw [← hAe]; exact Or.inr h
  clear hAe
  have hS : va_S A s.heap s.heap [] := va_S.rf
  have hl := lv_entry ([.ref (a 1), .int (nI (i)), .int (rc)]) (n := 3) (Nat.le_of_ble_eq_true rfl)
  rw [lg_entry_eq]
  generalize (lg_sl ([.ref (a 1), .int (nI (i)), .int (rc)]) ++ List.replicate (3 - (lg_sl ([.ref (a 1), .int (nI (i)), .int (rc)])).length) Slot.unset).toArray = ls at hl ⊢
  have hl : lv_has ls 3 [(0, .ref (a 1)), (1, .int (nI (i))), (2, .int (rc))] := hl
  generalize hHe : s.heap = H at hP
  have hS : va_S A s.heap H [] := by rw [← hHe]; exact va_S.rf
  clear hHe
  generalize hLe : ([] : List Loc) = locs at hS ⊢
  clear hLe
  refine lv_aload_n hx hb dX0_disputeRest_0 rfl (lv_at hl 0 rfl) ?_
  refine va_get (D := D) (ci := 0) (v := .ref (a 10)) (C := RX0) (T := TX0) (N := 12) hx hb hts (fun w h => List.mem_cons_of_mem _ (List.mem_append_right _ h)) hown hK hP 0 rfl rfl 8 (by decide) (hts (.fieldLink RX0 36 "CashAllocator$BillBook" "disputed" "[I") (by decide +kernel)) (fun _ h9 => h9) rfl dX0_disputeRest_1 ?_
  refine lv_iload_n hx hb dX0_disputeRest_4 rfl (lv_at hl 1 rfl) ?_
  refine lv_dup2_11 hx hb dX0_disputeRest_5 rfl rfl ?_
  refine zald hx hb hK hP 9 (n := 40) (f := (B 8)) rfl (i) rfl (by omega) (by decide) dX0_disputeRest_6 ?_
  refine lv_aload_n hx hb dX0_disputeRest_7 rfl (lv_at hl 0 rfl) ?_
  refine lv_iload_n hx hb dX0_disputeRest_8 rfl (lv_at hl 1 rfl) ?_
  refine zcVi (ci := 0) (q0 := 0) (wf := (fun (u : Unit) => (wBB a cI B))) (List.range 12) ⟨hx, hb, hml, hown, hts⟩ (zwAll 12 (by decide) rfl hP hD hS hA) hK (c_X0_openSum l D cI cZ a H.size (B) (i) (by first | assumption | omega)) (cwV 1 hts gX0_disputeRest_X0_openSum rfl rfl rfl (by decide +kernel) ⟨Nat.le_of_ble_eq_true rfl, Nat.le_of_ble_eq_true rfl⟩) rfl rfl (by decide) (fun _ => rfl) rfl hl.1 rfl (Nat.le_of_ble_eq_true rfl) dX0_disputeRest_9 ⟨Nat.le_of_ble_eq_true rfl, Nat.le_of_ble_eq_true rfl⟩ (fun r9 u H locs hw hP hD hS => ?_)
  subst hw
  refine lv_iadd hx hb dX0_disputeRest_12 ?_
  refine zast hx hb hK hP hD hS 9 (n := 40) (f := (B 8)) rfl (i) rfl (by omega) (by decide) (wBB a cI (pt B 8 (i) ((B 8 (i)) + (opn (B) (i))))) rfl dX0_disputeRest_13 (fun H locs hP hD hS => ?_)
  refine lv_aload_n hx hb dX0_disputeRest_14 rfl (lv_at hl 0 rfl) ?_
  refine va_get (D := D) (ci := 0) (v := .ref (a 11)) (C := RX0) (T := TX0) (N := 12) hx hb hts (fun w h => List.mem_cons_of_mem _ (List.mem_append_right _ h)) hown hK hP 0 rfl rfl 9 (by decide) (hts (.fieldLink RX0 39 "CashAllocator$BillBook" "disputedBy" "[I") (by decide +kernel)) (fun _ h9 => h9) rfl dX0_disputeRest_15 ?_
  refine lv_iload_n hx hb dX0_disputeRest_18 rfl (lv_at hl 1 rfl) ?_
  refine lv_iload_n hx hb dX0_disputeRest_19 rfl (lv_at hl 2 rfl) ?_
  refine zast hx hb hK hP hD hS 10 (n := 40) (f := (B 9)) rfl (i) rfl (by omega) (by decide) (wBB a cI (pt (pt B 8 (i) ((B 8 (i)) + (opn (B) (i)))) 9 (i) (rc))) rfl dX0_disputeRest_20 (fun H locs hP hD hS => ?_)
  exact W.vret hx hb hr (fun t ht hW => ⟨⟨(pt (pt B 8 (i) ((B 8 (i)) + (opn (B) (i)))) 9 (i) (rc)), rfl, rfl, by rw [ht]; exact hP, va_K.moved hW.alike hK, hD⟩, hS.F ht⟩) hS.2.2 dX0_disputeRest_21
set_option maxHeartbeats 4000000 in
set_option maxRecDepth 100000 in
theorem c_X0_endDispute (l : Launch) (D : va_G) (cI cZ : ClassId) (a : Nat → Nat) (sz : Nat) (B : Nat → Nat → Int32) (i : Nat) (zz : Int32) (hi : i < 40) : Met l yX0_endDispute wsX0_endDispute ({ frames := 0, cells := 0, slots := 0, locals := 0 } : Room) (va_Pc [.ref (a 1), .int (nI (i)), .int (zz)] (PreW D cI cZ (wBB a cI B) sz)) (va_Qi (fun (r : Int32) (u : Nat → Nat → Int32) => r = B 8 i ∧ u = edD B i zz) (fun (u : Nat → Nat → Int32) => PostW D cI cZ (va_A (wBB a cI B) sz) (wBB a cI u)) (va_A (wBB a cI B) sz)) 0 0 (va_A (wBB a cI B) sz) := by
  refine Met.ofW (cc := cX0_endDispute) (maxL := 4) (ret := (some .int)) (by decide) rfl ?_
  intro p e s m args below meth c s₁ BB hml hv
  obtain ⟨rfl, hsz, hP, hK, hD0⟩ := hv
  have hx := BB.exec
  have hb := BB.bytes
  have hr := BB.returns
  have hts := atoms_spec (ws := wsX0_endDispute) BB.pre
  have hown : s.vm.findClass RX0 = some m.cls := findClass_of_methodNamed BB.named
  have hlocks := BB.notSynchronized
  clear BB
  subst hsz
  have hD := hD0.self (sz := s.heap.size)
  clear hD0
  generalize hAe : va_A (wBB a cI B) s.heap.size = A at hD ⊢
  have hA : ∀ q : Nat, s.heap.size ≤ q → A q := fun q h => by rw [← hAe]; exact Or.inr h
  clear hAe
  have hS : va_S A s.heap s.heap [] := va_S.rf
  have hl := lv_entry ([.ref (a 1), .int (nI (i)), .int (zz)]) (n := 4) (Nat.le_of_ble_eq_true rfl)
  rw [lg_entry_eq]
  generalize (lg_sl ([.ref (a 1), .int (nI (i)), .int (zz)]) ++ List.replicate (4 - (lg_sl ([.ref (a 1), .int (nI (i)), .int (zz)])).length) Slot.unset).toArray = ls at hl ⊢
  have hl : lv_has ls 4 [(0, .ref (a 1)), (1, .int (nI (i))), (2, .int (zz))] := hl
  generalize hHe : s.heap = H at hP
  have hS : va_S A s.heap H [] := by rw [← hHe]; exact va_S.rf
  clear hHe
  generalize hLe : ([] : List Loc) = locs at hS ⊢
  clear hLe
  refine lv_aload_n hx hb dX0_endDispute_0 rfl (lv_at hl 0 rfl) ?_
  refine va_get (D := D) (ci := 0) (v := .ref (a 10)) (C := RX0) (T := TX0) (N := 12) hx hb hts (fun w h => List.mem_cons_of_mem _ (List.mem_append_right _ h)) hown hK hP 0 rfl rfl 8 (by decide) (hts (.fieldLink RX0 36 "CashAllocator$BillBook" "disputed" "[I") (by decide +kernel)) (fun _ h9 => h9) rfl dX0_endDispute_1 ?_
  refine lv_iload_n hx hb dX0_endDispute_4 rfl (lv_at hl 1 rfl) ?_
  refine zald hx hb hK hP 9 (n := 40) (f := (B 8)) rfl (i) rfl (by omega) (by decide) dX0_endDispute_5 ?_
  refine lv_istore_n (lv' := [(3, .int (B 8 (i))), (0, .ref (a 1)), (1, .int (nI (i))), (2, .int (zz))]) hx hb dX0_endDispute_6 rfl hl (by decide) rfl (fun ls hl => ?_)
  refine lv_iload_n hx hb dX0_endDispute_7 rfl (lv_at hl 3 rfl) ?_
  refine lv_if_eq (tgt := 21) hx hb dX0_endDispute_8 (by decide) (fun c8 => ?_) (fun c8 => ?_)
  · -- 8 taken
    refine lv_aload_n hx hb dX0_endDispute_21 rfl (lv_at hl 1 rfl) ?_
    refine va_get (D := D) (ci := 0) (v := .ref (a 10)) (C := RX0) (T := TX0) (N := 12) hx hb hts (fun w h => List.mem_cons_of_mem _ (List.mem_append_right _ h)) hown hK hP 0 rfl rfl 8 (by decide) (hts (.fieldLink RX0 36 "CashAllocator$BillBook" "disputed" "[I") (by decide +kernel)) (fun _ h9 => h9) rfl dX0_endDispute_22 ?_
    refine lv_iload_n hx hb dX0_endDispute_25 rfl (lv_at hl 2 rfl) ?_
    refine lv_iconst (v := 0) hx hb dX0_endDispute_26 (by decide) ?_
    refine zast hx hb hK hP hD hS 9 (n := 40) (f := (B 8)) rfl (i) rfl (by omega) (by decide) (wBB a cI (pt B 8 (i) (0))) rfl dX0_endDispute_27 (fun H locs hP hD hS => ?_)
    refine lv_aload_n hx hb dX0_endDispute_28 rfl (lv_at hl 1 rfl) ?_
    refine va_get (D := D) (ci := 0) (v := .ref (a 11)) (C := RX0) (T := TX0) (N := 12) hx hb hts (fun w h => List.mem_cons_of_mem _ (List.mem_append_right _ h)) hown hK hP 0 rfl rfl 9 (by decide) (hts (.fieldLink RX0 39 "CashAllocator$BillBook" "disputedBy" "[I") (by decide +kernel)) (fun _ h9 => h9) rfl dX0_endDispute_29 ?_
    refine lv_iload_n hx hb dX0_endDispute_32 rfl (lv_at hl 2 rfl) ?_
    refine lv_iconst (v := (-1)) hx hb dX0_endDispute_33 (by decide) ?_
    refine zast hx hb hK hP hD hS 10 (n := 40) (f := (B 9)) rfl (i) rfl (by omega) (by decide) (wBB a cI (pt (pt B 8 (i) (0)) 9 (i) ((-1)))) rfl dX0_endDispute_34 (fun H locs hP hD hS => ?_)
    refine lv_iload_n hx hb dX0_endDispute_35 rfl (lv_at hl 0 rfl) ?_
    exact W.iret (v := B 8 (i)) hx hb hr (fun t ht hW => ⟨⟨B 8 (i), (pt (pt B 8 (i) (0)) 9 (i) ((-1))), rfl, ⟨rfl, by simp only [edD]; first | rw [if_pos c8] | rw [if_neg c8]⟩, by rw [ht]; exact hP, va_K.moved hW.alike hK, hD⟩, hS.F ht⟩) hS.2.2 dX0_endDispute_36
  · -- 8 on
    refine lv_aload_n hx hb dX0_endDispute_11 rfl (lv_at hl 1 rfl) ?_
    refine va_get (D := D) (ci := 0) (v := .ref (a 12)) (C := RX0) (T := TX0) (N := 12) hx hb hts (fun w h => List.mem_cons_of_mem _ (List.mem_append_right _ h)) hown hK hP 0 rfl rfl 10 (by decide) (hts (.fieldLink RX0 42 "CashAllocator$BillBook" "writtenOff" "[I") (by decide +kernel)) (fun _ h9 => h9) rfl dX0_endDispute_12 ?_
    refine lv_iload_n hx hb dX0_endDispute_15 rfl (lv_at hl 2 rfl) ?_
    refine lv_dup2_11 hx hb dX0_endDispute_16 rfl rfl ?_
    refine zald hx hb hK hP 11 (n := 40) (f := (B 10)) rfl (i) rfl (by omega) (by decide) dX0_endDispute_17 ?_
    refine lv_iload_n hx hb dX0_endDispute_18 rfl (lv_at hl 0 rfl) ?_
    refine lv_iadd hx hb dX0_endDispute_19 ?_
    refine zast hx hb hK hP hD hS 11 (n := 40) (f := (B 10)) rfl (i) rfl (by omega) (by decide) (wBB a cI (pt B 10 (i) ((B 10 (i)) + (B 8 (i))))) rfl dX0_endDispute_20 (fun H locs hP hD hS => ?_)
    refine lv_aload_n hx hb dX0_endDispute_21 rfl (lv_at hl 1 rfl) ?_
    refine va_get (D := D) (ci := 0) (v := .ref (a 10)) (C := RX0) (T := TX0) (N := 12) hx hb hts (fun w h => List.mem_cons_of_mem _ (List.mem_append_right _ h)) hown hK hP 0 rfl rfl 8 (by decide) (hts (.fieldLink RX0 36 "CashAllocator$BillBook" "disputed" "[I") (by decide +kernel)) (fun _ h9 => h9) rfl dX0_endDispute_22 ?_
    refine lv_iload_n hx hb dX0_endDispute_25 rfl (lv_at hl 2 rfl) ?_
    refine lv_iconst (v := 0) hx hb dX0_endDispute_26 (by decide) ?_
    refine zast hx hb hK hP hD hS 9 (n := 40) (f := (B 8)) rfl (i) rfl (by omega) (by decide) (wBB a cI (pt (pt B 10 (i) ((B 10 (i)) + (B 8 (i)))) 8 (i) (0))) rfl dX0_endDispute_27 (fun H locs hP hD hS => ?_)
    refine lv_aload_n hx hb dX0_endDispute_28 rfl (lv_at hl 1 rfl) ?_
    refine va_get (D := D) (ci := 0) (v := .ref (a 11)) (C := RX0) (T := TX0) (N := 12) hx hb hts (fun w h => List.mem_cons_of_mem _ (List.mem_append_right _ h)) hown hK hP 0 rfl rfl 9 (by decide) (hts (.fieldLink RX0 39 "CashAllocator$BillBook" "disputedBy" "[I") (by decide +kernel)) (fun _ h9 => h9) rfl dX0_endDispute_29 ?_
    refine lv_iload_n hx hb dX0_endDispute_32 rfl (lv_at hl 2 rfl) ?_
    refine lv_iconst (v := (-1)) hx hb dX0_endDispute_33 (by decide) ?_
    refine zast hx hb hK hP hD hS 10 (n := 40) (f := (B 9)) rfl (i) rfl (by omega) (by decide) (wBB a cI (pt (pt (pt B 10 (i) ((B 10 (i)) + (B 8 (i)))) 8 (i) (0)) 9 (i) ((-1)))) rfl dX0_endDispute_34 (fun H locs hP hD hS => ?_)
    refine lv_iload_n hx hb dX0_endDispute_35 rfl (lv_at hl 0 rfl) ?_
    exact W.iret (v := B 8 (i)) hx hb hr (fun t ht hW => ⟨⟨B 8 (i), (pt (pt (pt B 10 (i) ((B 10 (i)) + (B 8 (i)))) 8 (i) (0)) 9 (i) ((-1))), rfl, ⟨rfl, by simp only [edD]; first | rw [if_pos c8] | rw [if_neg c8]⟩, by rw [ht]; exact hP, va_K.moved hW.alike hK, hD⟩, hS.F ht⟩) hS.2.2 dX0_endDispute_36
set_option maxHeartbeats 4000000 in
set_option maxRecDepth 100000 in
theorem c_X0_undo (l : Launch) (D : va_G) (cI cZ : ClassId) (a : Nat → Nat) (sz : Nat) (B : Nat → Nat → Int32) (i : Nat) (rc : Int32) (sm : Int32) (hi : i < 40) : Met l yX0_undo wsX0_undo ({ frames := 1, cells := 0, slots := 0, locals := 23 } : Room) (va_Pc [.ref (a 1), .int (nI (i)), .int (rc), .int (sm)] (PreW D cI cZ (wBB a cI B) sz)) (va_Qv (fun (u : Nat → Nat → Int32) => u = und B i rc sm) (fun (u : Nat → Nat → Int32) => PostW D cI cZ (va_A (wBB a cI B) sz) (wBB a cI u)) (va_A (wBB a cI B) sz)) 0 0 (va_A (wBB a cI B) sz) := by
  refine Met.ofW (cc := cX0_undo) (maxL := 4) (ret := none) (by decide) rfl ?_
  intro p e s m args below meth c s₁ BB hml hv
  obtain ⟨rfl, hsz, hP, hK, hD0⟩ := hv
  have hx := BB.exec
  have hb := BB.bytes
  have hr := BB.returns
  have hts := atoms_spec (ws := wsX0_undo) BB.pre
  have hown : s.vm.findClass RX0 = some m.cls := findClass_of_methodNamed BB.named
  have hlocks := BB.notSynchronized
  clear BB
  subst hsz
  have hD := hD0.self (sz := s.heap.size)
  clear hD0
  generalize hAe : va_A (wBB a cI B) s.heap.size = A at hD ⊢
  have hA : ∀ q : Nat, s.heap.size ≤ q → A q := fun q h => by rw [← hAe]; exact Or.inr h
  clear hAe
  have hS : va_S A s.heap s.heap [] := va_S.rf
  have hl := lv_entry ([.ref (a 1), .int (nI (i)), .int (rc), .int (sm)]) (n := 4) (Nat.le_of_ble_eq_true rfl)
  rw [lg_entry_eq]
  generalize (lg_sl ([.ref (a 1), .int (nI (i)), .int (rc), .int (sm)]) ++ List.replicate (4 - (lg_sl ([.ref (a 1), .int (nI (i)), .int (rc), .int (sm)])).length) Slot.unset).toArray = ls at hl ⊢
  have hl : lv_has ls 4 [(0, .ref (a 1)), (1, .int (nI (i))), (2, .int (rc)), (3, .int (sm))] := hl
  generalize hHe : s.heap = H at hP
  have hS : va_S A s.heap H [] := by rw [← hHe]; exact va_S.rf
  clear hHe
  generalize hLe : ([] : List Loc) = locs at hS ⊢
  clear hLe
  refine lv_aload_n hx hb dX0_undo_0 rfl (lv_at hl 0 rfl) ?_
  refine va_get (D := D) (ci := 0) (v := .ref (a 7)) (C := RX0) (T := TX0) (N := 12) hx hb hts (fun w h => List.mem_cons_of_mem _ (List.mem_append_right _ h)) hown hK hP 0 rfl rfl 5 (by decide) (hts (.fieldLink RX0 27 "CashAllocator$BillBook" "paid" "[I") (by decide +kernel)) (fun _ h9 => h9) rfl dX0_undo_1 ?_
  refine lv_iload_n hx hb dX0_undo_4 rfl (lv_at hl 1 rfl) ?_
  refine lv_dup2_11 hx hb dX0_undo_5 rfl rfl ?_
  refine zald hx hb hK hP 6 (n := 40) (f := (B 5)) rfl (i) rfl (by omega) (by decide) dX0_undo_6 ?_
  refine lv_iload_n hx hb dX0_undo_7 rfl (lv_at hl 3 rfl) ?_
  refine lv_isub hx hb dX0_undo_8 ?_
  refine zast hx hb hK hP hD hS 6 (n := 40) (f := (B 5)) rfl (i) rfl (by omega) (by decide) (wBB a cI (pt B 5 (i) ((B 5 (i)) - (sm)))) rfl dX0_undo_9 (fun H locs hP hD hS => ?_)
  refine lv_aload_n hx hb dX0_undo_10 rfl (lv_at hl 0 rfl) ?_
  refine va_get (D := D) (ci := 0) (v := .ref (a 9)) (C := RX0) (T := TX0) (N := 12) hx hb hts (fun w h => List.mem_cons_of_mem _ (List.mem_append_right _ h)) hown hK hP 0 rfl rfl 7 (by decide) (hts (.fieldLink RX0 33 "CashAllocator$BillBook" "takenBy" "[I") (by decide +kernel)) (fun _ h9 => h9) rfl dX0_undo_11 ?_
  refine lv_iload_n hx hb dX0_undo_14 rfl (lv_at hl 1 rfl) ?_
  refine zald hx hb hK hP 8 (n := 40) (f := (B 7)) rfl (i) rfl (by omega) (by decide) dX0_undo_15 ?_
  refine lv_iload_n hx hb dX0_undo_16 rfl (lv_at hl 2 rfl) ?_
  refine lv_icmp_ne (tgt := 34) hx hb dX0_undo_17 (by decide) (fun c17 => ?_) (fun c17 => ?_)
  · -- 17 taken
    refine lv_aload_n hx hb dX0_undo_34 rfl (lv_at hl 0 rfl) ?_
    refine va_get (D := D) (ci := 0) (v := .ref (a 11)) (C := RX0) (T := TX0) (N := 12) hx hb hts (fun w h => List.mem_cons_of_mem _ (List.mem_append_right _ h)) hown hK hP 0 rfl rfl 9 (by decide) (hts (.fieldLink RX0 39 "CashAllocator$BillBook" "disputedBy" "[I") (by decide +kernel)) (fun _ h9 => h9) rfl dX0_undo_35 ?_
    refine lv_iload_n hx hb dX0_undo_38 rfl (lv_at hl 1 rfl) ?_
    refine zald hx hb hK hP 10 (n := 40) (f := (B 9)) rfl (i) rfl (by omega) (by decide) dX0_undo_39 ?_
    refine lv_iload_n hx hb dX0_undo_40 rfl (lv_at hl 2 rfl) ?_
    refine lv_icmp_ne (tgt := 51) hx hb dX0_undo_41 (by decide) (fun c41 => ?_) (fun c41 => ?_)
    · -- 41 taken
      have c41 : ¬ ((pt B 5 (i) ((B 5 (i)) - (sm)))) 9 i = rc := c41
      exact W.vret hx hb hr (fun t ht hW => ⟨⟨(pt B 5 (i) ((B 5 (i)) - (sm))), rfl, by unfold und und2 und1; first | rw [if_pos c17, if_pos c41] | rw [if_pos c17, if_neg c41] | rw [if_neg c17, if_pos c41] | rw [if_neg c17, if_neg c41], by rw [ht]; exact hP, va_K.moved hW.alike hK, hD⟩, hS.F ht⟩) hS.2.2 dX0_undo_51
    · -- 41 on
      refine lv_aload_n hx hb dX0_undo_44 rfl (lv_at hl 0 rfl) ?_
      refine lv_iload_n hx hb dX0_undo_45 rfl (lv_at hl 1 rfl) ?_
      refine lv_iconst (v := 0) hx hb dX0_undo_46 (by decide) ?_
      refine zcVi (ci := 0) (q0 := 0) (wf := (fun (u : Nat → Nat → Int32) => (wBB a cI u))) (List.range 12) ⟨hx, hb, hml, hown, hts⟩ (zwAll 12 (by decide) rfl hP hD hS hA) hK (c_X0_endDispute l D cI cZ a H.size ((pt B 5 (i) ((B 5 (i)) - (sm)))) (i) (0) (by first | assumption | omega)) (cwV 2 hts gX0_undo_X0_endDispute rfl rfl rfl (by decide +kernel) ⟨Nat.le_of_ble_eq_true rfl, Nat.le_of_ble_eq_true rfl⟩) rfl rfl (by decide) (fun _ => rfl) rfl hl.1 rfl (Nat.le_of_ble_eq_true rfl) dX0_undo_47 ⟨Nat.le_of_ble_eq_true rfl, Nat.le_of_ble_eq_true rfl⟩ (fun r47 u H locs hw hP hD hS => ?_)
      obtain ⟨rfl, rfl⟩ := hw
      have hP : va_P D vwCl (wBB a cI (edD ((pt B 5 (i) ((B 5 (i)) - (sm)))) (i) (0))) H := hP
      have hD : va_D A (wBB a cI (edD ((pt B 5 (i) ((B 5 (i)) - (sm)))) (i) (0))) := hD
      refine lv_pop hx hb dX0_undo_50 rfl ?_
      have c41 : ((pt B 5 (i) ((B 5 (i)) - (sm)))) 9 i = rc := c41
      exact W.vret hx hb hr (fun t ht hW => ⟨⟨(edD ((pt B 5 (i) ((B 5 (i)) - (sm)))) (i) (0)), rfl, by unfold und und2 und1; first | rw [if_pos c17, if_pos c41] | rw [if_pos c17, if_neg c41] | rw [if_neg c17, if_pos c41] | rw [if_neg c17, if_neg c41], by rw [ht]; exact hP, va_K.moved hW.alike hK, hD⟩, hS.F ht⟩) hS.2.2 dX0_undo_51
  · -- 17 on
    refine lv_aload_n hx hb dX0_undo_20 rfl (lv_at hl 0 rfl) ?_
    refine va_get (D := D) (ci := 0) (v := .ref (a 8)) (C := RX0) (T := TX0) (N := 12) hx hb hts (fun w h => List.mem_cons_of_mem _ (List.mem_append_right _ h)) hown hK hP 0 rfl rfl 6 (by decide) (hts (.fieldLink RX0 30 "CashAllocator$BillBook" "taken" "[I") (by decide +kernel)) (fun _ h9 => h9) rfl dX0_undo_21 ?_
    refine lv_iload_n hx hb dX0_undo_24 rfl (lv_at hl 1 rfl) ?_
    refine lv_iconst (v := 0) hx hb dX0_undo_25 (by decide) ?_
    refine zast hx hb hK hP hD hS 7 (n := 40) (f := (B 6)) rfl (i) rfl (by omega) (by decide) (wBB a cI (pt (pt B 5 (i) ((B 5 (i)) - (sm))) 6 (i) (0))) rfl dX0_undo_26 (fun H locs hP hD hS => ?_)
    refine lv_aload_n hx hb dX0_undo_27 rfl (lv_at hl 0 rfl) ?_
    refine va_get (D := D) (ci := 0) (v := .ref (a 9)) (C := RX0) (T := TX0) (N := 12) hx hb hts (fun w h => List.mem_cons_of_mem _ (List.mem_append_right _ h)) hown hK hP 0 rfl rfl 7 (by decide) (hts (.fieldLink RX0 33 "CashAllocator$BillBook" "takenBy" "[I") (by decide +kernel)) (fun _ h9 => h9) rfl dX0_undo_28 ?_
    refine lv_iload_n hx hb dX0_undo_31 rfl (lv_at hl 1 rfl) ?_
    refine lv_iconst (v := (-1)) hx hb dX0_undo_32 (by decide) ?_
    refine zast hx hb hK hP hD hS 8 (n := 40) (f := (B 7)) rfl (i) rfl (by omega) (by decide) (wBB a cI (pt (pt (pt B 5 (i) ((B 5 (i)) - (sm))) 6 (i) (0)) 7 (i) ((-1)))) rfl dX0_undo_33 (fun H locs hP hD hS => ?_)
    refine lv_aload_n hx hb dX0_undo_34 rfl (lv_at hl 0 rfl) ?_
    refine va_get (D := D) (ci := 0) (v := .ref (a 11)) (C := RX0) (T := TX0) (N := 12) hx hb hts (fun w h => List.mem_cons_of_mem _ (List.mem_append_right _ h)) hown hK hP 0 rfl rfl 9 (by decide) (hts (.fieldLink RX0 39 "CashAllocator$BillBook" "disputedBy" "[I") (by decide +kernel)) (fun _ h9 => h9) rfl dX0_undo_35 ?_
    refine lv_iload_n hx hb dX0_undo_38 rfl (lv_at hl 1 rfl) ?_
    refine zald hx hb hK hP 10 (n := 40) (f := (B 9)) rfl (i) rfl (by omega) (by decide) dX0_undo_39 ?_
    refine lv_iload_n hx hb dX0_undo_40 rfl (lv_at hl 2 rfl) ?_
    refine lv_icmp_ne (tgt := 51) hx hb dX0_undo_41 (by decide) (fun c41 => ?_) (fun c41 => ?_)
    · -- 41 taken
      have c41 : ¬ ((pt (pt (pt B 5 (i) ((B 5 (i)) - (sm))) 6 (i) (0)) 7 (i) ((-1)))) 9 i = rc := c41
      exact W.vret hx hb hr (fun t ht hW => ⟨⟨(pt (pt (pt B 5 (i) ((B 5 (i)) - (sm))) 6 (i) (0)) 7 (i) ((-1))), rfl, by unfold und und2 und1; first | rw [if_pos c17, if_pos c41] | rw [if_pos c17, if_neg c41] | rw [if_neg c17, if_pos c41] | rw [if_neg c17, if_neg c41], by rw [ht]; exact hP, va_K.moved hW.alike hK, hD⟩, hS.F ht⟩) hS.2.2 dX0_undo_51
    · -- 41 on
      refine lv_aload_n hx hb dX0_undo_44 rfl (lv_at hl 0 rfl) ?_
      refine lv_iload_n hx hb dX0_undo_45 rfl (lv_at hl 1 rfl) ?_
      refine lv_iconst (v := 0) hx hb dX0_undo_46 (by decide) ?_
      refine zcVi (ci := 0) (q0 := 0) (wf := (fun (u : Nat → Nat → Int32) => (wBB a cI u))) (List.range 12) ⟨hx, hb, hml, hown, hts⟩ (zwAll 12 (by decide) rfl hP hD hS hA) hK (c_X0_endDispute l D cI cZ a H.size ((pt (pt (pt B 5 (i) ((B 5 (i)) - (sm))) 6 (i) (0)) 7 (i) ((-1)))) (i) (0) (by first | assumption | omega)) (cwV 2 hts gX0_undo_X0_endDispute rfl rfl rfl (by decide +kernel) ⟨Nat.le_of_ble_eq_true rfl, Nat.le_of_ble_eq_true rfl⟩) rfl rfl (by decide) (fun _ => rfl) rfl hl.1 rfl (Nat.le_of_ble_eq_true rfl) dX0_undo_47 ⟨Nat.le_of_ble_eq_true rfl, Nat.le_of_ble_eq_true rfl⟩ (fun r47 u H locs hw hP hD hS => ?_)
      obtain ⟨rfl, rfl⟩ := hw
      have hP : va_P D vwCl (wBB a cI (edD ((pt (pt (pt B 5 (i) ((B 5 (i)) - (sm))) 6 (i) (0)) 7 (i) ((-1)))) (i) (0))) H := hP
      have hD : va_D A (wBB a cI (edD ((pt (pt (pt B 5 (i) ((B 5 (i)) - (sm))) 6 (i) (0)) 7 (i) ((-1)))) (i) (0))) := hD
      refine lv_pop hx hb dX0_undo_50 rfl ?_
      have c41 : ((pt (pt (pt B 5 (i) ((B 5 (i)) - (sm))) 6 (i) (0)) 7 (i) ((-1)))) 9 i = rc := c41
      exact W.vret hx hb hr (fun t ht hW => ⟨⟨(edD ((pt (pt (pt B 5 (i) ((B 5 (i)) - (sm))) 6 (i) (0)) 7 (i) ((-1)))) (i) (0)), rfl, by unfold und und2 und1; first | rw [if_pos c17, if_pos c41] | rw [if_pos c17, if_neg c41] | rw [if_neg c17, if_pos c41] | rw [if_neg c17, if_neg c41], by rw [ht]; exact hP, va_K.moved hW.alike hK, hD⟩, hS.F ht⟩) hS.2.2 dX0_undo_51
set_option maxHeartbeats 4000000 in
set_option maxRecDepth 100000 in
theorem c_X0_add (l : Launch) (D : va_G) (cI cZ : ClassId) (a : Nat → Nat) (sz : Nat) (B : Nat → Nat → Int32) (n : Nat) (cu : Int32) (am : Int32) (rf : Int32) (di : Int32) (un : Int32) (hB : B 11 0 = nI n) (hn : n < 40) : Met l yX0_add wsX0_add ({ frames := 0, cells := 0, slots := 0, locals := 0 } : Room) (va_Pc [.ref (a 1), .int (cu), .int (am), .int (rf), .int (di), .int (un)] (PreW D cI cZ (wBB a cI B) sz)) (va_Qi (fun (r : Int32) (u : Nat → Nat → Int32) => r = nI n ∧ u = addB B n cu am rf di un) (fun (u : Nat → Nat → Int32) => PostW D cI cZ (va_A (wBB a cI B) sz) (wBB a cI u)) (va_A (wBB a cI B) sz)) 0 0 (va_A (wBB a cI B) sz) := by
  refine Met.ofW (cc := cX0_add) (maxL := 7) (ret := (some .int)) (by decide) rfl ?_
  intro p e s m args below meth c s₁ BB hml hv
  obtain ⟨rfl, hsz, hP, hK, hD0⟩ := hv
  have hx := BB.exec
  have hb := BB.bytes
  have hr := BB.returns
  have hts := atoms_spec (ws := wsX0_add) BB.pre
  have hown : s.vm.findClass RX0 = some m.cls := findClass_of_methodNamed BB.named
  have hlocks := BB.notSynchronized
  clear BB
  subst hsz
  have hD := hD0.self (sz := s.heap.size)
  clear hD0
  generalize hAe : va_A (wBB a cI B) s.heap.size = A at hD ⊢
  have hA : ∀ q : Nat, s.heap.size ≤ q → A q := fun q h => by rw [← hAe]; exact Or.inr h
  clear hAe
  have hS : va_S A s.heap s.heap [] := va_S.rf
  have hl := lv_entry ([.ref (a 1), .int (cu), .int (am), .int (rf), .int (di), .int (un)]) (n := 7) (Nat.le_of_ble_eq_true rfl)
  rw [lg_entry_eq]
  generalize (lg_sl ([.ref (a 1), .int (cu), .int (am), .int (rf), .int (di), .int (un)]) ++ List.replicate (7 - (lg_sl ([.ref (a 1), .int (cu), .int (am), .int (rf), .int (di), .int (un)])).length) Slot.unset).toArray = ls at hl ⊢
  have hl : lv_has ls 7 [(0, .ref (a 1)), (1, .int (cu)), (2, .int (am)), (3, .int (rf)), (4, .int (di)), (5, .int (un))] := hl
  generalize hHe : s.heap = H at hP
  have hS : va_S A s.heap H [] := by rw [← hHe]; exact va_S.rf
  clear hHe
  generalize hLe : ([] : List Loc) = locs at hS ⊢
  clear hLe
  refine lv_aload_n hx hb dX0_add_0 rfl (lv_at hl 0 rfl) ?_
  refine va_get (D := D) (ci := 0) (v := .int (nI (n))) (C := RX0) (T := TX0) (N := 12) hx hb hts (fun w h => List.mem_cons_of_mem _ (List.mem_append_right _ h)) hown hK hP 0 rfl rfl 11 (by decide) (hts (.fieldLink RX0 45 "CashAllocator$BillBook" "count" "I") (by decide +kernel)) (fun _ h9 => h9) (congrArg (fun z => some (Value.int z)) hB) dX0_add_1 ?_
  refine lv_istore (lv' := [(6, .int (nI (n))), (0, .ref (a 1)), (1, .int (cu)), (2, .int (am)), (3, .int (rf)), (4, .int (di)), (5, .int (un))]) hx hb dX0_add_4 hl (by decide) rfl (fun ls hl => ?_)
  refine lv_aload_n hx hb dX0_add_6 rfl (lv_at hl 1 rfl) ?_
  refine va_get (D := D) (ci := 0) (v := .ref (a 2)) (C := RX0) (T := TX0) (N := 12) hx hb hts (fun w h => List.mem_cons_of_mem _ (List.mem_append_right _ h)) hown hK hP 0 rfl rfl 0 (by decide) (hts (.fieldLink RX0 9 "CashAllocator$BillBook" "customer" "[I") (by decide +kernel)) (fun _ h9 => h9) rfl dX0_add_7 ?_
  refine lv_iload hx hb dX0_add_10 (lv_at hl 0 rfl) ?_
  refine lv_iload_n hx hb dX0_add_12 rfl (lv_at hl 2 rfl) ?_
  refine zast hx hb hK hP hD hS 1 (n := 40) (f := (B 0)) rfl (n) rfl (by omega) (by decide) (wBB a cI (pt B 0 (n) (cu))) rfl dX0_add_13 (fun H locs hP hD hS => ?_)
  refine lv_aload_n hx hb dX0_add_14 rfl (lv_at hl 1 rfl) ?_
  refine va_get (D := D) (ci := 0) (v := .ref (a 3)) (C := RX0) (T := TX0) (N := 12) hx hb hts (fun w h => List.mem_cons_of_mem _ (List.mem_append_right _ h)) hown hK hP 0 rfl rfl 1 (by decide) (hts (.fieldLink RX0 15 "CashAllocator$BillBook" "amount" "[I") (by decide +kernel)) (fun _ h9 => h9) rfl dX0_add_15 ?_
  refine lv_iload hx hb dX0_add_18 (lv_at hl 0 rfl) ?_
  refine lv_iload_n hx hb dX0_add_20 rfl (lv_at hl 3 rfl) ?_
  refine zast hx hb hK hP hD hS 2 (n := 40) (f := (B 1)) rfl (n) rfl (by omega) (by decide) (wBB a cI (pt (pt B 0 (n) (cu)) 1 (n) (am))) rfl dX0_add_21 (fun H locs hP hD hS => ?_)
  refine lv_aload_n hx hb dX0_add_22 rfl (lv_at hl 1 rfl) ?_
  refine va_get (D := D) (ci := 0) (v := .ref (a 4)) (C := RX0) (T := TX0) (N := 12) hx hb hts (fun w h => List.mem_cons_of_mem _ (List.mem_append_right _ h)) hown hK hP 0 rfl rfl 2 (by decide) (hts (.fieldLink RX0 18 "CashAllocator$BillBook" "reference" "[I") (by decide +kernel)) (fun _ h9 => h9) rfl dX0_add_23 ?_
  refine lv_iload hx hb dX0_add_26 (lv_at hl 0 rfl) ?_
  refine lv_iload_n hx hb dX0_add_28 rfl (lv_at hl 4 rfl) ?_
  refine zast hx hb hK hP hD hS 3 (n := 40) (f := (B 2)) rfl (n) rfl (by omega) (by decide) (wBB a cI (pt (pt (pt B 0 (n) (cu)) 1 (n) (am)) 2 (n) (rf))) rfl dX0_add_29 (fun H locs hP hD hS => ?_)
  refine lv_aload_n hx hb dX0_add_30 rfl (lv_at hl 1 rfl) ?_
  refine va_get (D := D) (ci := 0) (v := .ref (a 5)) (C := RX0) (T := TX0) (N := 12) hx hb hts (fun w h => List.mem_cons_of_mem _ (List.mem_append_right _ h)) hown hK hP 0 rfl rfl 3 (by decide) (hts (.fieldLink RX0 21 "CashAllocator$BillBook" "discount" "[I") (by decide +kernel)) (fun _ h9 => h9) rfl dX0_add_31 ?_
  refine lv_iload hx hb dX0_add_34 (lv_at hl 0 rfl) ?_
  refine lv_iload hx hb dX0_add_36 (lv_at hl 5 rfl) ?_
  refine zast hx hb hK hP hD hS 4 (n := 40) (f := (B 3)) rfl (n) rfl (by omega) (by decide) (wBB a cI (pt (pt (pt (pt B 0 (n) (cu)) 1 (n) (am)) 2 (n) (rf)) 3 (n) (di))) rfl dX0_add_38 (fun H locs hP hD hS => ?_)
  refine lv_aload_n hx hb dX0_add_39 rfl (lv_at hl 1 rfl) ?_
  refine va_get (D := D) (ci := 0) (v := .ref (a 6)) (C := RX0) (T := TX0) (N := 12) hx hb hts (fun w h => List.mem_cons_of_mem _ (List.mem_append_right _ h)) hown hK hP 0 rfl rfl 4 (by decide) (hts (.fieldLink RX0 24 "CashAllocator$BillBook" "lastDiscountDay" "[I") (by decide +kernel)) (fun _ h9 => h9) rfl dX0_add_40 ?_
  refine lv_iload hx hb dX0_add_43 (lv_at hl 0 rfl) ?_
  refine lv_iload hx hb dX0_add_45 (lv_at hl 6 rfl) ?_
  refine zast hx hb hK hP hD hS 5 (n := 40) (f := (B 4)) rfl (n) rfl (by omega) (by decide) (wBB a cI (pt (pt (pt (pt (pt B 0 (n) (cu)) 1 (n) (am)) 2 (n) (rf)) 3 (n) (di)) 4 (n) (un))) rfl dX0_add_47 (fun H locs hP hD hS => ?_)
  refine lv_aload_n hx hb dX0_add_48 rfl (lv_at hl 1 rfl) ?_
  refine va_get (D := D) (ci := 0) (v := .ref (a 9)) (C := RX0) (T := TX0) (N := 12) hx hb hts (fun w h => List.mem_cons_of_mem _ (List.mem_append_right _ h)) hown hK hP 0 rfl rfl 7 (by decide) (hts (.fieldLink RX0 33 "CashAllocator$BillBook" "takenBy" "[I") (by decide +kernel)) (fun _ h9 => h9) rfl dX0_add_49 ?_
  refine lv_iload hx hb dX0_add_52 (lv_at hl 0 rfl) ?_
  refine lv_iconst (v := (-1)) hx hb dX0_add_54 (by decide) ?_
  refine zast hx hb hK hP hD hS 8 (n := 40) (f := (B 7)) rfl (n) rfl (by omega) (by decide) (wBB a cI (pt (pt (pt (pt (pt (pt B 0 (n) (cu)) 1 (n) (am)) 2 (n) (rf)) 3 (n) (di)) 4 (n) (un)) 7 (n) ((-1)))) rfl dX0_add_55 (fun H locs hP hD hS => ?_)
  refine lv_aload_n hx hb dX0_add_56 rfl (lv_at hl 1 rfl) ?_
  refine va_get (D := D) (ci := 0) (v := .ref (a 11)) (C := RX0) (T := TX0) (N := 12) hx hb hts (fun w h => List.mem_cons_of_mem _ (List.mem_append_right _ h)) hown hK hP 0 rfl rfl 9 (by decide) (hts (.fieldLink RX0 39 "CashAllocator$BillBook" "disputedBy" "[I") (by decide +kernel)) (fun _ h9 => h9) rfl dX0_add_57 ?_
  refine lv_iload hx hb dX0_add_60 (lv_at hl 0 rfl) ?_
  refine lv_iconst (v := (-1)) hx hb dX0_add_62 (by decide) ?_
  refine zast hx hb hK hP hD hS 10 (n := 40) (f := (B 9)) rfl (n) rfl (by omega) (by decide) (wBB a cI (pt (pt (pt (pt (pt (pt (pt B 0 (n) (cu)) 1 (n) (am)) 2 (n) (rf)) 3 (n) (di)) 4 (n) (un)) 7 (n) ((-1))) 9 (n) ((-1)))) rfl dX0_add_63 (fun H locs hP hD hS => ?_)
  refine lv_aload_n hx hb dX0_add_64 rfl (lv_at hl 1 rfl) ?_
  refine lv_dup hx hb dX0_add_65 rfl ?_
  refine va_get (D := D) (ci := 0) (v := .int (nI (n))) (C := RX0) (T := TX0) (N := 12) hx hb hts (fun w h => List.mem_cons_of_mem _ (List.mem_append_right _ h)) hown hK hP 0 rfl rfl 11 (by decide) (hts (.fieldLink RX0 45 "CashAllocator$BillBook" "count" "I") (by decide +kernel)) (fun _ h9 => h9) (congrArg (fun z => some (Value.int z)) hB) dX0_add_66 ?_
  refine lv_iconst (v := 1) hx hb dX0_add_69 (by decide) ?_
  refine lv_iadd hx hb dX0_add_70 ?_
  rw [nI_1]
  refine va_put (D := D) (ci := 0) (v := .int (nI (n + 1))) (ty := .int) (C := RX0) (T := TX0) (N := 12) hx hb hts (fun w h => List.mem_cons_of_mem _ (List.mem_append_right _ h)) tyX0 tyX0_ok nmX0 hown hK hP hD hS 0 rfl rfl 11 (by decide) (hts (.fieldLink RX0 45 "CashAllocator$BillBook" "count" "I") (by decide +kernel)) (fun _ h9 => h9) rfl (by decide +kernel) rfl rfl (Nat.le_of_ble_eq_true rfl) dX0_add_71 (fun H locs hP hD hS => ?_)
  have hP : va_P D vwCl (wBB a cI (pt (pt (pt (pt (pt (pt (pt (pt B 0 (n) (cu)) 1 (n) (am)) 2 (n) (rf)) 3 (n) (di)) 4 (n) (un)) 7 (n) ((-1))) 9 (n) ((-1))) 11 (0) (nI (n + 1)))) H := hP
  have hD : va_D A (wBB a cI (pt (pt (pt (pt (pt (pt (pt (pt B 0 (n) (cu)) 1 (n) (am)) 2 (n) (rf)) 3 (n) (di)) 4 (n) (un)) 7 (n) ((-1))) 9 (n) ((-1))) 11 (0) (nI (n + 1)))) := hD
  refine lv_iload hx hb dX0_add_74 (lv_at hl 0 rfl) ?_
  exact W.iret (v := nI (n)) hx hb hr (fun t ht hW => ⟨⟨nI (n), (pt (pt (pt (pt (pt (pt (pt (pt B 0 (n) (cu)) 1 (n) (am)) 2 (n) (rf)) 3 (n) (di)) 4 (n) (un)) 7 (n) ((-1))) 9 (n) ((-1))) 11 (0) (nI (n + 1))), rfl, ⟨rfl, rfl⟩, by rw [ht]; exact hP, va_K.moved hW.alike hK, hD⟩, hS.F ht⟩) hS.2.2 dX0_add_76
