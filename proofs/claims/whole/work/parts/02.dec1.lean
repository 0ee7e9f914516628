theorem dX4_isDigit_0 : decode cX4_isDigit 0 = .ok (.iload_n 0, 1) := by decide +kernel
theorem dX4_isDigit_1 : decode cX4_isDigit 1 = .ok (.bipush 48, 2) := by decide +kernel
theorem dX4_isDigit_3 : decode cX4_isDigit 3 = .ok (.bipush 57, 2) := by decide +kernel
theorem dX4_isDigit_5 : decode cX4_isDigit 5 = .ok (.invokestatic 29, 3) := by decide +kernel
theorem dX4_isDigit_8 : decode cX4_isDigit 8 = .ok (.ireturn, 1) := by decide +kernel
theorem dX4_digit_0 : decode cX4_digit 0 = .ok (.aload_n 0, 1) := by decide +kernel
theorem dX4_digit_1 : decode cX4_digit 1 = .ok (.invokevirtual 70, 3) := by decide +kernel
theorem dX4_digit_4 : decode cX4_digit 4 = .ok (.aload_n 0, 1) := by decide +kernel
theorem dX4_digit_5 : decode cX4_digit 5 = .ok (.getfield 23, 3) := by decide +kernel
theorem dX4_digit_8 : decode cX4_digit 8 = .ok (.aload_n 0, 1) := by decide +kernel
theorem dX4_digit_9 : decode cX4_digit 9 = .ok (.getfield 19, 3) := by decide +kernel
theorem dX4_digit_12 : decode cX4_digit 12 = .ok (.if_icmp .ge 43, 3) := by decide +kernel
theorem dX4_digit_15 : decode cX4_digit 15 = .ok (.aload_n 0, 1) := by decide +kernel
theorem dX4_digit_16 : decode cX4_digit 16 = .ok (.getfield 15, 3) := by decide +kernel
theorem dX4_digit_19 : decode cX4_digit 19 = .ok (.aload_n 0, 1) := by decide +kernel
theorem dX4_digit_20 : decode cX4_digit 20 = .ok (.getfield 23, 3) := by decide +kernel
theorem dX4_digit_23 : decode cX4_digit 23 = .ok (.baload, 1) := by decide +kernel
theorem dX4_digit_24 : decode cX4_digit 24 = .ok (.invokestatic 76, 3) := by decide +kernel
theorem dX4_digit_27 : decode cX4_digit 27 = .ok (.ifCond .eq 28, 3) := by decide +kernel
theorem dX4_digit_30 : decode cX4_digit 30 = .ok (.aload_n 0, 1) := by decide +kernel
theorem dX4_digit_31 : decode cX4_digit 31 = .ok (.dup, 1) := by decide +kernel
theorem dX4_digit_32 : decode cX4_digit 32 = .ok (.getfield 23, 3) := by decide +kernel
theorem dX4_digit_35 : decode cX4_digit 35 = .ok (.iconst 1, 1) := by decide +kernel
theorem dX4_digit_36 : decode cX4_digit 36 = .ok (.iadd, 1) := by decide +kernel
theorem dX4_digit_37 : decode cX4_digit 37 = .ok (.putfield 23, 3) := by decide +kernel
theorem dX4_digit_40 : decode cX4_digit 40 = .ok (.aload_n 0, 1) := by decide +kernel
theorem dX4_digit_41 : decode cX4_digit 41 = .ok (.getfield 15, 3) := by decide +kernel
theorem dX4_digit_44 : decode cX4_digit 44 = .ok (.aload_n 0, 1) := by decide +kernel
theorem dX4_digit_45 : decode cX4_digit 45 = .ok (.getfield 23, 3) := by decide +kernel
theorem dX4_digit_48 : decode cX4_digit 48 = .ok (.iconst 1, 1) := by decide +kernel
theorem dX4_digit_49 : decode cX4_digit 49 = .ok (.isub, 1) := by decide +kernel
theorem dX4_digit_50 : decode cX4_digit 50 = .ok (.baload, 1) := by decide +kernel
theorem dX4_digit_51 : decode cX4_digit 51 = .ok (.bipush 48, 2) := by decide +kernel
theorem dX4_digit_53 : decode cX4_digit 53 = .ok (.isub, 1) := by decide +kernel
theorem dX4_digit_54 : decode cX4_digit 54 = .ok (.ireturn, 1) := by decide +kernel
theorem dX4_digit_55 : decode cX4_digit 55 = .ok (.aload_n 0, 1) := by decide +kernel
theorem dX4_digit_56 : decode cX4_digit 56 = .ok (.aload_n 0, 1) := by decide +kernel
theorem dX4_digit_57 : decode cX4_digit 57 = .ok (.getfield 23, 3) := by decide +kernel
theorem dX4_digit_60 : decode cX4_digit 60 = .ok (.invokevirtual 73, 3) := by decide +kernel
theorem dX4_digit_63 : decode cX4_digit 63 = .ok (.iconst 0, 1) := by decide +kernel
theorem dX4_digit_64 : decode cX4_digit 64 = .ok (.ireturn, 1) := by decide +kernel
theorem dX4_mark_0 : decode cX4_mark 0 = .ok (.aload_n 0, 1) := by decide +kernel
theorem dX4_mark_1 : decode cX4_mark 1 = .ok (.getstatic 80, 3) := by decide +kernel
theorem dX4_mark_4 : decode cX4_mark 4 = .ok (.iload_n 1, 1) := by decide +kernel
theorem dX4_mark_5 : decode cX4_mark 5 = .ok (.iaload, 1) := by decide +kernel
theorem dX4_mark_6 : decode cX4_mark 6 = .ok (.getstatic 83, 3) := by decide +kernel
theorem dX4_mark_9 : decode cX4_mark 9 = .ok (.iload_n 1, 1) := by decide +kernel
theorem dX4_mark_10 : decode cX4_mark 10 = .ok (.iaload, 1) := by decide +kernel
theorem dX4_mark_11 : decode cX4_mark 11 = .ok (.invokevirtual 54, 3) := by decide +kernel
theorem dX4_mark_14 : decode cX4_mark 14 = .ok (.ireturn, 1) := by decide +kernel
theorem dX4_number_0 : decode cX4_number 0 = .ok (.aload_n 0, 1) := by decide +kernel
theorem dX4_number_1 : decode cX4_number 1 = .ok (.invokevirtual 70, 3) := by decide +kernel
theorem dX4_number_4 : decode cX4_number 4 = .ok (.aload_n 0, 1) := by decide +kernel
theorem dX4_number_5 : decode cX4_number 5 = .ok (.getfield 23, 3) := by decide +kernel
theorem dX4_number_8 : decode cX4_number 8 = .ok (.istore_n 3, 1) := by decide +kernel
theorem dX4_number_9 : decode cX4_number 9 = .ok (.iconst 0, 1) := by decide +kernel
theorem dX4_number_10 : decode cX4_number 10 = .ok (.istore 4, 2) := by decide +kernel
theorem dX4_number_12 : decode cX4_number 12 = .ok (.aload_n 0, 1) := by decide +kernel
theorem dX4_number_13 : decode cX4_number 13 = .ok (.getfield 23, 3) := by decide +kernel
theorem dX4_number_16 : decode cX4_number 16 = .ok (.aload_n 0, 1) := by decide +kernel
theorem dX4_number_17 : decode cX4_number 17 = .ok (.getfield 19, 3) := by decide +kernel
theorem dX4_number_20 : decode cX4_number 20 = .ok (.if_icmp .ge 57, 3) := by decide +kernel
theorem dX4_number_23 : decode cX4_number 23 = .ok (.aload_n 0, 1) := by decide +kernel
theorem dX4_number_24 : decode cX4_number 24 = .ok (.getfield 15, 3) := by decide +kernel
theorem dX4_number_27 : decode cX4_number 27 = .ok (.aload_n 0, 1) := by decide +kernel
theorem dX4_number_28 : decode cX4_number 28 = .ok (.getfield 23, 3) := by decide +kernel
theorem dX4_number_31 : decode cX4_number 31 = .ok (.baload, 1) := by decide +kernel
theorem dX4_number_32 : decode cX4_number 32 = .ok (.invokestatic 76, 3) := by decide +kernel
theorem dX4_number_35 : decode cX4_number 35 = .ok (.ifCond .eq 42, 3) := by decide +kernel
theorem dX4_number_38 : decode cX4_number 38 = .ok (.sipush 1000, 3) := by decide +kernel
theorem dX4_number_41 : decode cX4_number 41 = .ok (.bipush 10, 2) := by decide +kernel
theorem dX4_number_43 : decode cX4_number 43 = .ok (.iload 4, 2) := by decide +kernel
theorem dX4_number_45 : decode cX4_number 45 = .ok (.imul, 1) := by decide +kernel
theorem dX4_number_46 : decode cX4_number 46 = .ok (.aload_n 0, 1) := by decide +kernel
theorem dX4_number_47 : decode cX4_number 47 = .ok (.getfield 15, 3) := by decide +kernel
theorem dX4_number_50 : decode cX4_number 50 = .ok (.aload_n 0, 1) := by decide +kernel
theorem dX4_number_51 : decode cX4_number 51 = .ok (.getfield 23, 3) := by decide +kernel
theorem dX4_number_54 : decode cX4_number 54 = .ok (.baload, 1) := by decide +kernel
theorem dX4_number_55 : decode cX4_number 55 = .ok (.iadd, 1) := by decide +kernel
theorem dX4_number_56 : decode cX4_number 56 = .ok (.bipush 48, 2) := by decide +kernel
theorem dX4_number_58 : decode cX4_number 58 = .ok (.isub, 1) := by decide +kernel
theorem dX4_number_59 : decode cX4_number 59 = .ok (.invokestatic 86, 3) := by decide +kernel
theorem dX4_number_62 : decode cX4_number 62 = .ok (.istore 4, 2) := by decide +kernel
theorem dX4_number_64 : decode cX4_number 64 = .ok (.aload_n 0, 1) := by decide +kernel
theorem dX4_number_65 : decode cX4_number 65 = .ok (.dup, 1) := by decide +kernel
theorem dX4_number_66 : decode cX4_number 66 = .ok (.getfield 23, 3) := by decide +kernel
theorem dX4_number_69 : decode cX4_number 69 = .ok (.iconst 1, 1) := by decide +kernel
theorem dX4_number_70 : decode cX4_number 70 = .ok (.iadd, 1) := by decide +kernel
theorem dX4_number_71 : decode cX4_number 71 = .ok (.putfield 23, 3) := by decide +kernel
theorem dX4_number_74 : decode cX4_number 74 = .ok (.goto (-62), 3) := by decide +kernel
theorem dX4_number_77 : decode cX4_number 77 = .ok (.aload_n 0, 1) := by decide +kernel
theorem dX4_number_78 : decode cX4_number 78 = .ok (.getfield 23, 3) := by decide +kernel
theorem dX4_number_81 : decode cX4_number 81 = .ok (.iload_n 3, 1) := by decide +kernel
theorem dX4_number_82 : decode cX4_number 82 = .ok (.if_icmp .eq 13, 3) := by decide +kernel
theorem dX4_number_85 : decode cX4_number 85 = .ok (.iload 4, 2) := by decide +kernel
theorem dX4_number_87 : decode cX4_number 87 = .ok (.iload_n 1, 1) := by decide +kernel
theorem dX4_number_88 : decode cX4_number 88 = .ok (.iload_n 2, 1) := by decide +kernel
theorem dX4_number_89 : decode cX4_number 89 = .ok (.invokestatic 29, 3) := by decide +kernel
theorem dX4_number_92 : decode cX4_number 92 = .ok (.ifCond .ne 8, 3) := by decide +kernel
theorem dX4_number_95 : decode cX4_number 95 = .ok (.aload_n 0, 1) := by decide +kernel
theorem dX4_number_96 : decode cX4_number 96 = .ok (.iload_n 3, 1) := by decide +kernel
theorem dX4_number_97 : decode cX4_number 97 = .ok (.invokevirtual 73, 3) := by decide +kernel
theorem dX4_number_100 : decode cX4_number 100 = .ok (.iload 4, 2) := by decide +kernel
theorem dX4_number_102 : decode cX4_number 102 = .ok (.ireturn, 1) := by decide +kernel
theorem dX5_init_0 : decode cX5_init 0 = .ok (.aload_n 0, 1) := by decide +kernel
theorem dX5_init_1 : decode cX5_init 1 = .ok (.invokespecial 3, 3) := by decide +kernel
theorem dX5_init_4 : decode cX5_init 4 = .ok (.aload_n 0, 1) := by decide +kernel
theorem dX5_init_5 : decode cX5_init 5 = .ok (.iconst 0, 1) := by decide +kernel
theorem dX5_init_6 : decode cX5_init 6 = .ok (.putfield 9, 3) := by decide +kernel
theorem dX5_init_9 : decode cX5_init 9 = .ok (.aload_n 0, 1) := by decide +kernel
theorem dX5_init_10 : decode cX5_init 10 = .ok (.iconst 0, 1) := by decide +kernel
theorem dX5_init_11 : decode cX5_init 11 = .ok (.putfield 15, 3) := by decide +kernel
theorem dX5_init_14 : decode cX5_init 14 = .ok (.aload_n 0, 1) := by decide +kernel
theorem dX5_init_15 : decode cX5_init 15 = .ok (.iconst 0, 1) := by decide +kernel
theorem dX5_init_16 : decode cX5_init 16 = .ok (.putfield 18, 3) := by decide +kernel
theorem dX5_init_19 : decode cX5_init 19 = .ok (.aload_n 0, 1) := by decide +kernel
theorem dX5_init_20 : decode cX5_init 20 = .ok (.iconst 0, 1) := by decide +kernel
theorem dX5_init_21 : decode cX5_init 21 = .ok (.putfield 21, 3) := by decide +kernel
theorem dX5_init_24 : decode cX5_init 24 = .ok (.aload_n 0, 1) := by decide +kernel
theorem dX5_init_25 : decode cX5_init 25 = .ok (.iconst 0, 1) := by decide +kernel
theorem dX5_init_26 : decode cX5_init 26 = .ok (.putfield 24, 3) := by decide +kernel
theorem dX5_init_29 : decode cX5_init 29 = .ok (.aload_n 0, 1) := by decide +kernel
theorem dX5_init_30 : decode cX5_init 30 = .ok (.iconst 0, 1) := by decide +kernel
theorem dX5_init_31 : decode cX5_init 31 = .ok (.putfield 27, 3) := by decide +kernel
theorem dX5_init_34 : decode cX5_init 34 = .ok (.aload_n 0, 1) := by decide +kernel
theorem dX5_init_35 : decode cX5_init 35 = .ok (.iconst (-1), 1) := by decide +kernel
theorem dX5_init_36 : decode cX5_init 36 = .ok (.putfield 30, 3) := by decide +kernel
theorem dX5_init_39 : decode cX5_init 39 = .ok (.aload_n 0, 1) := by decide +kernel
theorem dX5_init_40 : decode cX5_init 40 = .ok (.aload_n 1, 1) := by decide +kernel
theorem dX5_init_41 : decode cX5_init 41 = .ok (.putfield 33, 3) := by decide +kernel
theorem dX5_init_44 : decode cX5_init 44 = .ok (.return_, 1) := by decide +kernel
theorem dX5_begin_0 : decode cX5_begin 0 = .ok (.aload_n 0, 1) := by decide +kernel
theorem dX5_begin_1 : decode cX5_begin 1 = .ok (.aload_n 0, 1) := by decide +kernel
theorem dX5_begin_2 : decode cX5_begin 2 = .ok (.getfield 33, 3) := by decide +kernel
theorem dX5_begin_5 : decode cX5_begin 5 = .ok (.iload_n 1, 1) := by decide +kernel
theorem dX5_begin_6 : decode cX5_begin 6 = .ok (.iconst 1, 1) := by decide +kernel
theorem dX5_begin_7 : decode cX5_begin 7 = .ok (.invokevirtual 37, 3) := by decide +kernel
theorem dX5_begin_10 : decode cX5_begin 10 = .ok (.putfield 15, 3) := by decide +kernel
theorem dX5_begin_13 : decode cX5_begin 13 = .ok (.aload_n 0, 1) := by decide +kernel
theorem dX5_begin_14 : decode cX5_begin 14 = .ok (.aload_n 0, 1) := by decide +kernel
theorem dX5_begin_15 : decode cX5_begin 15 = .ok (.getfield 33, 3) := by decide +kernel
theorem dX5_begin_18 : decode cX5_begin 18 = .ok (.getfield 43, 3) := by decide +kernel
theorem dX5_begin_21 : decode cX5_begin 21 = .ok (.iconst 1, 1) := by decide +kernel
theorem dX5_begin_22 : decode cX5_begin 22 = .ok (.iaload, 1) := by decide +kernel
theorem dX5_begin_23 : decode cX5_begin 23 = .ok (.putfield 24, 3) := by decide +kernel
theorem dX5_begin_26 : decode cX5_begin 26 = .ok (.aload_n 0, 1) := by decide +kernel
theorem dX5_begin_27 : decode cX5_begin 27 = .ok (.iconst (-1), 1) := by decide +kernel
theorem dX5_begin_28 : decode cX5_begin 28 = .ok (.putfield 30, 3) := by decide +kernel
theorem dX5_begin_31 : decode cX5_begin 31 = .ok (.aload_n 0, 1) := by decide +kernel
theorem dX5_begin_32 : decode cX5_begin 32 = .ok (.aload_n 0, 1) := by decide +kernel
theorem dX5_begin_33 : decode cX5_begin 33 = .ok (.getfield 33, 3) := by decide +kernel
theorem dX5_begin_36 : decode cX5_begin 36 = .ok (.getfield 43, 3) := by decide +kernel
theorem dX5_begin_39 : decode cX5_begin 39 = .ok (.iconst 3, 1) := by decide +kernel
theorem dX5_begin_40 : decode cX5_begin 40 = .ok (.iaload, 1) := by decide +kernel
theorem dX5_begin_41 : decode cX5_begin 41 = .ok (.aload_n 0, 1) := by decide +kernel
theorem dX5_begin_42 : decode cX5_begin 42 = .ok (.getfield 33, 3) := by decide +kernel
theorem dX5_begin_45 : decode cX5_begin 45 = .ok (.getfield 43, 3) := by decide +kernel
theorem dX5_begin_48 : decode cX5_begin 48 = .ok (.iconst 4, 1) := by decide +kernel
theorem dX5_begin_49 : decode cX5_begin 49 = .ok (.iaload, 1) := by decide +kernel
theorem dX5_begin_50 : decode cX5_begin 50 = .ok (.invokevirtual 47, 3) := by decide +kernel
theorem dX5_begin_53 : decode cX5_begin 53 = .ok (.aload_n 0, 1) := by decide +kernel
theorem dX5_begin_54 : decode cX5_begin 54 = .ok (.aload_n 0, 1) := by decide +kernel
theorem dX5_begin_55 : decode cX5_begin 55 = .ok (.getfield 33, 3) := by decide +kernel
theorem dX5_begin_58 : decode cX5_begin 58 = .ok (.iload_n 1, 1) := by decide +kernel
theorem dX5_begin_59 : decode cX5_begin 59 = .ok (.iconst 0, 1) := by decide +kernel
theorem dX5_begin_60 : decode cX5_begin 60 = .ok (.invokevirtual 37, 3) := by decide +kernel
theorem dX5_begin_63 : decode cX5_begin 63 = .ok (.invokevirtual 51, 3) := by decide +kernel
theorem dX5_begin_66 : decode cX5_begin 66 = .ok (.return_, 1) := by decide +kernel
theorem dX5_load_0 : decode cX5_load 0 = .ok (.aload_n 0, 1) := by decide +kernel
theorem dX5_load_1 : decode cX5_load 1 = .ok (.iload_n 1, 1) := by decide +kernel
theorem dX5_load_2 : decode cX5_load 2 = .ok (.putfield 9, 3) := by decide +kernel
theorem dX5_load_5 : decode cX5_load 5 = .ok (.aload_n 0, 1) := by decide +kernel
theorem dX5_load_6 : decode cX5_load 6 = .ok (.invokevirtual 55, 3) := by decide +kernel
theorem dX5_load_9 : decode cX5_load 9 = .ok (.return_, 1) := by decide +kernel
theorem dX5_keepTo_0 : decode cX5_keepTo 0 = .ok (.aload_n 0, 1) := by decide +kernel
theorem dX5_keepTo_1 : decode cX5_keepTo 1 = .ok (.iload_n 1, 1) := by decide +kernel
theorem dX5_keepTo_2 : decode cX5_keepTo 2 = .ok (.putfield 18, 3) := by decide +kernel
theorem dX5_keepTo_5 : decode cX5_keepTo 5 = .ok (.aload_n 0, 1) := by decide +kernel
theorem dX5_keepTo_6 : decode cX5_keepTo 6 = .ok (.iload_n 2, 1) := by decide +kernel
theorem dX5_keepTo_7 : decode cX5_keepTo 7 = .ok (.putfield 21, 3) := by decide +kernel
theorem dX5_keepTo_10 : decode cX5_keepTo 10 = .ok (.aload_n 0, 1) := by decide +kernel
theorem dX5_keepTo_11 : decode cX5_keepTo 11 = .ok (.invokevirtual 55, 3) := by decide +kernel
theorem dX5_keepTo_14 : decode cX5_keepTo 14 = .ok (.return_, 1) := by decide +kernel
theorem dX5_reckonNeed_0 : decode cX5_reckonNeed 0 = .ok (.aload_n 0, 1) := by decide +kernel
theorem dX5_reckonNeed_1 : decode cX5_reckonNeed 1 = .ok (.aload_n 0, 1) := by decide +kernel
theorem dX5_reckonNeed_2 : decode cX5_reckonNeed 2 = .ok (.getfield 18, 3) := by decide +kernel
theorem dX5_reckonNeed_5 : decode cX5_reckonNeed 5 = .ok (.ifCond .ne 10, 3) := by decide +kernel
theorem dX5_reckonNeed_8 : decode cX5_reckonNeed 8 = .ok (.aload_n 0, 1) := by decide +kernel
theorem dX5_reckonNeed_9 : decode cX5_reckonNeed 9 = .ok (.getfield 21, 3) := by decide +kernel
theorem dX5_reckonNeed_12 : decode cX5_reckonNeed 12 = .ok (.goto 15, 3) := by decide +kernel
theorem dX5_reckonNeed_15 : decode cX5_reckonNeed 15 = .ok (.aload_n 0, 1) := by decide +kernel
theorem dX5_reckonNeed_16 : decode cX5_reckonNeed 16 = .ok (.getfield 9, 3) := by decide +kernel
theorem dX5_reckonNeed_19 : decode cX5_reckonNeed 19 = .ok (.aload_n 0, 1) := by decide +kernel
theorem dX5_reckonNeed_20 : decode cX5_reckonNeed 20 = .ok (.getfield 21, 3) := by decide +kernel
theorem dX5_reckonNeed_23 : decode cX5_reckonNeed 23 = .ok (.imul, 1) := by decide +kernel
theorem dX5_reckonNeed_24 : decode cX5_reckonNeed 24 = .ok (.bipush 100, 2) := by decide +kernel
theorem dX5_reckonNeed_26 : decode cX5_reckonNeed 26 = .ok (.idiv, 1) := by decide +kernel
theorem dX5_reckonNeed_27 : decode cX5_reckonNeed 27 = .ok (.putfield 27, 3) := by decide +kernel
theorem dX5_reckonNeed_30 : decode cX5_reckonNeed 30 = .ok (.return_, 1) := by decide +kernel
theorem dX5_level_0 : decode cX5_level 0 = .ok (.aload_n 0, 1) := by decide +kernel
theorem dX5_level_1 : decode cX5_level 1 = .ok (.getfield 33, 3) := by decide +kernel
theorem dX5_level_4 : decode cX5_level 4 = .ok (.iload_n 1, 1) := by decide +kernel
theorem dX5_level_5 : decode cX5_level 5 = .ok (.iload_n 2, 1) := by decide +kernel
theorem dX5_level_6 : decode cX5_level 6 = .ok (.aload_n 0, 1) := by decide +kernel
theorem dX5_level_7 : decode cX5_level 7 = .ok (.getfield 24, 3) := by decide +kernel
theorem dX5_level_10 : decode cX5_level 10 = .ok (.invokevirtual 58, 3) := by decide +kernel
theorem dX5_level_13 : decode cX5_level 13 = .ok (.iload_n 1, 1) := by decide +kernel
theorem dX5_level_14 : decode cX5_level 14 = .ok (.aload_n 0, 1) := by decide +kernel
theorem dX5_level_15 : decode cX5_level 15 = .ok (.getfield 30, 3) := by decide +kernel
theorem dX5_level_18 : decode cX5_level 18 = .ok (.if_icmp .ne 7, 3) := by decide +kernel
theorem dX5_level_21 : decode cX5_level 21 = .ok (.iconst 1, 1) := by decide +kernel
theorem dX5_level_22 : decode cX5_level 22 = .ok (.goto 4, 3) := by decide +kernel
theorem dX5_level_25 : decode cX5_level 25 = .ok (.iconst 0, 1) := by decide +kernel
theorem dX5_level_26 : decode cX5_level 26 = .ok (.iadd, 1) := by decide +kernel
theorem dX5_level_27 : decode cX5_level 27 = .ok (.ireturn, 1) := by decide +kernel
theorem dX5_sinking_0 : decode cX5_sinking 0 = .ok (.iconst 3, 1) := by decide +kernel
theorem dX5_sinking_1 : decode cX5_sinking 1 = .ok (.aload_n 0, 1) := by decide +kernel
theorem dX5_sinking_2 : decode cX5_sinking 2 = .ok (.getfield 33, 3) := by decide +kernel
theorem dX5_sinking_5 : decode cX5_sinking 5 = .ok (.iload_n 1, 1) := by decide +kernel
theorem dX5_sinking_6 : decode cX5_sinking 6 = .ok (.iconst 1, 1) := by decide +kernel
theorem dX5_sinking_7 : decode cX5_sinking 7 = .ok (.invokevirtual 62, 3) := by decide +kernel
theorem dX5_sinking_10 : decode cX5_sinking 10 = .ok (.imul, 1) := by decide +kernel
theorem dX5_sinking_11 : decode cX5_sinking 11 = .ok (.iconst 1, 1) := by decide +kernel
theorem dX5_sinking_12 : decode cX5_sinking 12 = .ok (.iload_n 2, 1) := by decide +kernel
theorem dX5_sinking_13 : decode cX5_sinking 13 = .ok (.invokestatic 65, 3) := by decide +kernel
theorem dX5_sinking_16 : decode cX5_sinking 16 = .ok (.imul, 1) := by decide +kernel
theorem dX5_sinking_17 : decode cX5_sinking 17 = .ok (.istore 4, 2) := by decide +kernel
theorem dX5_sinking_19 : decode cX5_sinking 19 = .ok (.iload_n 3, 1) := by decide +kernel
theorem dX5_sinking_20 : decode cX5_sinking 20 = .ok (.iload_n 3, 1) := by decide +kernel
theorem dX5_sinking_21 : decode cX5_sinking 21 = .ok (.imul, 1) := by decide +kernel
theorem dX5_sinking_22 : decode cX5_sinking 22 = .ok (.aload_n 0, 1) := by decide +kernel
theorem dX5_sinking_23 : decode cX5_sinking 23 = .ok (.getfield 15, 3) := by decide +kernel
theorem dX5_sinking_26 : decode cX5_sinking 26 = .ok (.imul, 1) := by decide +kernel
theorem dX5_sinking_27 : decode cX5_sinking 27 = .ok (.aload_n 0, 1) := by decide +kernel
theorem dX5_sinking_28 : decode cX5_sinking 28 = .ok (.getfield 9, 3) := by decide +kernel
theorem dX5_sinking_31 : decode cX5_sinking 31 = .ok (.imul, 1) := by decide +kernel
theorem dX5_sinking_32 : decode cX5_sinking 32 = .ok (.iconst 1, 1) := by decide +kernel
theorem dX5_sinking_33 : decode cX5_sinking 33 = .ok (.iload 4, 2) := by decide +kernel
theorem dX5_sinking_35 : decode cX5_sinking 35 = .ok (.invokestatic 65, 3) := by decide +kernel
theorem dX5_sinking_38 : decode cX5_sinking 38 = .ok (.idiv, 1) := by decide +kernel
theorem dX5_sinking_39 : decode cX5_sinking 39 = .ok (.ireturn, 1) := by decide +kernel
theorem dX5_atRest_0 : decode cX5_atRest 0 = .ok (.aload_n 0, 1) := by decide +kernel
theorem dX5_atRest_1 : decode cX5_atRest 1 = .ok (.getfield 9, 3) := by decide +kernel
theorem dX5_atRest_4 : decode cX5_atRest 4 = .ok (.bipush 9, 2) := by decide +kernel
theorem dX5_atRest_6 : decode cX5_atRest 6 = .ok (.aload_n 0, 1) := by decide +kernel
theorem dX5_atRest_7 : decode cX5_atRest 7 = .ok (.getfield 33, 3) := by decide +kernel
theorem dX5_atRest_10 : decode cX5_atRest 10 = .ok (.iload_n 1, 1) := by decide +kernel
theorem dX5_atRest_11 : decode cX5_atRest 11 = .ok (.iconst 2, 1) := by decide +kernel
theorem dX5_atRest_12 : decode cX5_atRest 12 = .ok (.invokevirtual 62, 3) := by decide +kernel
theorem dX5_atRest_15 : decode cX5_atRest 15 = .ok (.isub, 1) := by decide +kernel
theorem dX5_atRest_16 : decode cX5_atRest 16 = .ok (.imul, 1) := by decide +kernel
theorem dX5_atRest_17 : decode cX5_atRest 17 = .ok (.sipush 400, 3) := by decide +kernel
theorem dX5_atRest_20 : decode cX5_atRest 20 = .ok (.idiv, 1) := by decide +kernel
theorem dX5_atRest_21 : decode cX5_atRest 21 = .ok (.istore_n 3, 1) := by decide +kernel
theorem dX5_atRest_22 : decode cX5_atRest 22 = .ok (.iload_n 2, 1) := by decide +kernel
theorem dX5_atRest_23 : decode cX5_atRest 23 = .ok (.aload_n 0, 1) := by decide +kernel
theorem dX5_atRest_24 : decode cX5_atRest 24 = .ok (.getfield 9, 3) := by decide +kernel
theorem dX5_atRest_27 : decode cX5_atRest 27 = .ok (.isub, 1) := by decide +kernel
theorem dX5_atRest_28 : decode cX5_atRest 28 = .ok (.iload_n 3, 1) := by decide +kernel
theorem dX5_atRest_29 : decode cX5_atRest 29 = .ok (.isub, 1) := by decide +kernel
theorem dX5_atRest_30 : decode cX5_atRest 30 = .ok (.aload_n 0, 1) := by decide +kernel
theorem dX5_atRest_31 : decode cX5_atRest 31 = .ok (.getfield 15, 3) := by decide +kernel
theorem dX5_atRest_34 : decode cX5_atRest 34 = .ok (.aload_n 0, 1) := by decide +kernel
theorem dX5_atRest_35 : decode cX5_atRest 35 = .ok (.getfield 24, 3) := by decide +kernel
theorem dX5_atRest_38 : decode cX5_atRest 38 = .ok (.imul, 1) := by decide +kernel
theorem dX5_atRest_39 : decode cX5_atRest 39 = .ok (.bipush 20, 2) := by decide +kernel
theorem dX5_atRest_41 : decode cX5_atRest 41 = .ok (.idiv, 1) := by decide +kernel
theorem dX5_atRest_42 : decode cX5_atRest 42 = .ok (.isub, 1) := by decide +kernel
theorem dX5_atRest_43 : decode cX5_atRest 43 = .ok (.ireturn, 1) := by decide +kernel
theorem dX5_clearance_0 : decode cX5_clearance 0 = .ok (.aload_n 0, 1) := by decide +kernel
theorem dX5_clearance_1 : decode cX5_clearance 1 = .ok (.iload_n 1, 1) := by decide +kernel
theorem dX5_clearance_2 : decode cX5_clearance 2 = .ok (.iload_n 2, 1) := by decide +kernel
theorem dX5_clearance_3 : decode cX5_clearance 3 = .ok (.invokevirtual 70, 3) := by decide +kernel
theorem dX5_clearance_6 : decode cX5_clearance 6 = .ok (.istore 4, 2) := by decide +kernel
theorem dX5_clearance_8 : decode cX5_clearance 8 = .ok (.aload_n 0, 1) := by decide +kernel
theorem dX5_clearance_9 : decode cX5_clearance 9 = .ok (.iload_n 1, 1) := by decide +kernel
theorem dX5_clearance_10 : decode cX5_clearance 10 = .ok (.iload 4, 2) := by decide +kernel
theorem dX5_clearance_12 : decode cX5_clearance 12 = .ok (.invokevirtual 73, 3) := by decide +kernel
theorem dX5_clearance_15 : decode cX5_clearance 15 = .ok (.aload_n 0, 1) := by decide +kernel
theorem dX5_clearance_16 : decode cX5_clearance 16 = .ok (.iload_n 1, 1) := by decide +kernel
theorem dX5_clearance_17 : decode cX5_clearance 17 = .ok (.iload 4, 2) := by decide +kernel
theorem dX5_clearance_19 : decode cX5_clearance 19 = .ok (.iload_n 3, 1) := by decide +kernel
theorem dX5_clearance_20 : decode cX5_clearance 20 = .ok (.invokevirtual 76, 3) := by decide +kernel
theorem dX5_clearance_23 : decode cX5_clearance 23 = .ok (.isub, 1) := by decide +kernel
theorem dX5_clearance_24 : decode cX5_clearance 24 = .ok (.ireturn, 1) := by decide +kernel
theorem dX6_init_0 : decode cX6_init 0 = .ok (.aload_n 0, 1) := by decide +kernel
theorem dX6_init_1 : decode cX6_init 1 = .ok (.invokespecial 3, 3) := by decide +kernel
theorem dX6_init_4 : decode cX6_init 4 = .ok (.aload_n 0, 1) := by decide +kernel
theorem dX6_init_5 : decode cX6_init 5 = .ok (.bipush (-4), 2) := by decide +kernel
theorem dX6_init_7 : decode cX6_init 7 = .ok (.putfield 9, 3) := by decide +kernel
theorem dX6_init_10 : decode cX6_init 10 = .ok (.aload_n 0, 1) := by decide +kernel
theorem dX6_init_11 : decode cX6_init 11 = .ok (.iconst 0, 1) := by decide +kernel
theorem dX6_init_12 : decode cX6_init 12 = .ok (.putfield 15, 3) := by decide +kernel
theorem dX6_init_15 : decode cX6_init 15 = .ok (.aload_n 0, 1) := by decide +kernel
theorem dX6_init_16 : decode cX6_init 16 = .ok (.iconst 0, 1) := by decide +kernel
theorem dX6_init_17 : decode cX6_init 17 = .ok (.putfield 18, 3) := by decide +kernel
theorem dX6_init_20 : decode cX6_init 20 = .ok (.aload_n 0, 1) := by decide +kernel
theorem dX6_init_21 : decode cX6_init 21 = .ok (.aload_n 1, 1) := by decide +kernel
theorem dX6_init_22 : decode cX6_init 22 = .ok (.putfield 21, 3) := by decide +kernel
theorem dX6_init_25 : decode cX6_init 25 = .ok (.return_, 1) := by decide +kernel
theorem dX6_sail_0 : decode cX6_sail 0 = .ok (.aload_n 0, 1) := by decide +kernel
theorem dX6_sail_1 : decode cX6_sail 1 = .ok (.bipush (-4), 2) := by decide +kernel
theorem dX6_sail_3 : decode cX6_sail 3 = .ok (.putfield 9, 3) := by decide +kernel
theorem dX6_sail_6 : decode cX6_sail 6 = .ok (.aload_n 0, 1) := by decide +kernel
theorem dX6_sail_7 : decode cX6_sail 7 = .ok (.iconst 0, 1) := by decide +kernel
theorem dX6_sail_8 : decode cX6_sail 8 = .ok (.putfield 15, 3) := by decide +kernel
theorem dX6_sail_11 : decode cX6_sail 11 = .ok (.aload_n 0, 1) := by decide +kernel
theorem dX6_sail_12 : decode cX6_sail 12 = .ok (.ldc 27, 2) := by decide +kernel
theorem dX6_sail_14 : decode cX6_sail 14 = .ok (.putfield 18, 3) := by decide +kernel
theorem dX6_sail_17 : decode cX6_sail 17 = .ok (.iconst 0, 1) := by decide +kernel
theorem dX6_sail_18 : decode cX6_sail 18 = .ok (.istore_n 3, 1) := by decide +kernel
theorem dX6_sail_19 : decode cX6_sail 19 = .ok (.iload_n 3, 1) := by decide +kernel
theorem dX6_sail_20 : decode cX6_sail 20 = .ok (.aload_n 0, 1) := by decide +kernel
theorem dX6_sail_21 : decode cX6_sail 21 = .ok (.getfield 21, 3) := by decide +kernel
theorem dX6_sail_24 : decode cX6_sail 24 = .ok (.getfield 28, 3) := by decide +kernel
theorem dX6_sail_27 : decode cX6_sail 27 = .ok (.if_icmp .ge 91, 3) := by decide +kernel
theorem dX6_sail_30 : decode cX6_sail 30 = .ok (.aload_n 0, 1) := by decide +kernel
theorem dX6_sail_31 : decode cX6_sail 31 = .ok (.getfield 9, 3) := by decide +kernel
theorem dX6_sail_34 : decode cX6_sail 34 = .ok (.bipush (-4), 2) := by decide +kernel
theorem dX6_sail_36 : decode cX6_sail 36 = .ok (.if_icmp .ne 82, 3) := by decide +kernel
theorem dX6_sail_39 : decode cX6_sail 39 = .ok (.aload_n 0, 1) := by decide +kernel
theorem dX6_sail_40 : decode cX6_sail 40 = .ok (.getfield 21, 3) := by decide +kernel
theorem dX6_sail_43 : decode cX6_sail 43 = .ok (.iload_n 3, 1) := by decide +kernel
theorem dX6_sail_44 : decode cX6_sail 44 = .ok (.iconst 5, 1) := by decide +kernel
theorem dX6_sail_45 : decode cX6_sail 45 = .ok (.invokevirtual 33, 3) := by decide +kernel
theorem dX6_sail_48 : decode cX6_sail 48 = .ok (.istore 4, 2) := by decide +kernel
theorem dX6_sail_50 : decode cX6_sail 50 = .ok (.aload_n 1, 1) := by decide +kernel
theorem dX6_sail_51 : decode cX6_sail 51 = .ok (.iload_n 3, 1) := by decide +kernel
theorem dX6_sail_52 : decode cX6_sail 52 = .ok (.aload_n 0, 1) := by decide +kernel
theorem dX6_sail_53 : decode cX6_sail 53 = .ok (.getfield 21, 3) := by decide +kernel
theorem dX6_sail_56 : decode cX6_sail 56 = .ok (.iload_n 2, 1) := by decide +kernel
theorem dX6_sail_57 : decode cX6_sail 57 = .ok (.aload_n 0, 1) := by decide +kernel
theorem dX6_sail_58 : decode cX6_sail 58 = .ok (.getfield 15, 3) := by decide +kernel
theorem dX6_sail_61 : decode cX6_sail 61 = .ok (.iadd, 1) := by decide +kernel
theorem dX6_sail_62 : decode cX6_sail 62 = .ok (.invokevirtual 37, 3) := by decide +kernel
theorem dX6_sail_65 : decode cX6_sail 65 = .ok (.iload 4, 2) := by decide +kernel
theorem dX6_sail_67 : decode cX6_sail 67 = .ok (.invokevirtual 41, 3) := by decide +kernel
theorem dX6_sail_70 : decode cX6_sail 70 = .ok (.istore 5, 2) := by decide +kernel
theorem dX6_sail_72 : decode cX6_sail 72 = .ok (.aload_n 0, 1) := by decide +kernel
theorem dX6_sail_73 : decode cX6_sail 73 = .ok (.aload_n 0, 1) := by decide +kernel
theorem dX6_sail_74 : decode cX6_sail 74 = .ok (.getfield 18, 3) := by decide +kernel
theorem dX6_sail_77 : decode cX6_sail 77 = .ok (.iload 5, 2) := by decide +kernel
theorem dX6_sail_79 : decode cX6_sail 79 = .ok (.invokestatic 47, 3) := by decide +kernel
theorem dX6_sail_82 : decode cX6_sail 82 = .ok (.putfield 18, 3) := by decide +kernel
theorem dX6_sail_85 : decode cX6_sail 85 = .ok (.iload 5, 2) := by decide +kernel
theorem dX6_sail_87 : decode cX6_sail 87 = .ok (.ifCond .ge 11, 3) := by decide +kernel
theorem dX6_sail_90 : decode cX6_sail 90 = .ok (.aload_n 0, 1) := by decide +kernel
theorem dX6_sail_91 : decode cX6_sail 91 = .ok (.iload_n 3, 1) := by decide +kernel
theorem dX6_sail_92 : decode cX6_sail 92 = .ok (.putfield 9, 3) := by decide +kernel
theorem dX6_sail_95 : decode cX6_sail 95 = .ok (.goto 17, 3) := by decide +kernel
theorem dX6_sail_98 : decode cX6_sail 98 = .ok (.aload_n 0, 1) := by decide +kernel
theorem dX6_sail_99 : decode cX6_sail 99 = .ok (.dup, 1) := by decide +kernel
theorem dX6_sail_100 : decode cX6_sail 100 = .ok (.getfield 15, 3) := by decide +kernel
theorem dX6_sail_103 : decode cX6_sail 103 = .ok (.iload 4, 2) := by decide +kernel
theorem dX6_sail_105 : decode cX6_sail 105 = .ok (.invokestatic 52, 3) := by decide +kernel
theorem dX6_sail_108 : decode cX6_sail 108 = .ok (.iadd, 1) := by decide +kernel
theorem dX6_sail_109 : decode cX6_sail 109 = .ok (.putfield 15, 3) := by decide +kernel
theorem dX6_sail_112 : decode cX6_sail 112 = .ok (.iinc 3 1, 3) := by decide +kernel
theorem dX6_sail_115 : decode cX6_sail 115 = .ok (.goto (-96), 3) := by decide +kernel
theorem dX6_sail_118 : decode cX6_sail 118 = .ok (.return_, 1) := by decide +kernel
theorem dX7_init_0 : decode cX7_init 0 = .ok (.aload_n 0, 1) := by decide +kernel
theorem dX7_init_1 : decode cX7_init 1 = .ok (.invokespecial 1, 3) := by decide +kernel
theorem dX7_init_4 : decode cX7_init 4 = .ok (.aload_n 0, 1) := by decide +kernel
theorem dX7_init_5 : decode cX7_init 5 = .ok (.new 7, 3) := by decide +kernel
theorem dX7_init_8 : decode cX7_init 8 = .ok (.dup, 1) := by decide +kernel
theorem dX7_init_9 : decode cX7_init 9 = .ok (.invokespecial 9, 3) := by decide +kernel
theorem dX7_init_12 : decode cX7_init 12 = .ok (.putfield 10, 3) := by decide +kernel
theorem dX7_init_15 : decode cX7_init 15 = .ok (.aload_n 0, 1) := by decide +kernel
theorem dX7_init_16 : decode cX7_init 16 = .ok (.new 7, 3) := by decide +kernel
theorem dX7_init_19 : decode cX7_init 19 = .ok (.dup, 1) := by decide +kernel
theorem dX7_init_20 : decode cX7_init 20 = .ok (.invokespecial 9, 3) := by decide +kernel
theorem dX7_init_23 : decode cX7_init 23 = .ok (.putfield 16, 3) := by decide +kernel
theorem dX7_init_26 : decode cX7_init 26 = .ok (.aload_n 0, 1) := by decide +kernel
theorem dX7_init_27 : decode cX7_init 27 = .ok (.new 19, 3) := by decide +kernel
theorem dX7_init_30 : decode cX7_init 30 = .ok (.dup, 1) := by decide +kernel
theorem dX7_init_31 : decode cX7_init 31 = .ok (.aload_n 0, 1) := by decide +kernel
theorem dX7_init_32 : decode cX7_init 32 = .ok (.getfield 10, 3) := by decide +kernel
theorem dX7_init_35 : decode cX7_init 35 = .ok (.invokespecial 21, 3) := by decide +kernel
theorem dX7_init_38 : decode cX7_init 38 = .ok (.putfield 24, 3) := by decide +kernel
theorem dX7_init_41 : decode cX7_init 41 = .ok (.aload_n 0, 1) := by decide +kernel
theorem dX7_init_42 : decode cX7_init 42 = .ok (.new 28, 3) := by decide +kernel
theorem dX7_init_45 : decode cX7_init 45 = .ok (.dup, 1) := by decide +kernel
theorem dX7_init_46 : decode cX7_init 46 = .ok (.aload_n 0, 1) := by decide +kernel
theorem dX7_init_47 : decode cX7_init 47 = .ok (.getfield 10, 3) := by decide +kernel
theorem dX7_init_50 : decode cX7_init 50 = .ok (.invokespecial 30, 3) := by decide +kernel
theorem dX7_init_53 : decode cX7_init 53 = .ok (.putfield 31, 3) := by decide +kernel
theorem dX7_init_56 : decode cX7_init 56 = .ok (.aload_n 0, 1) := by decide +kernel
theorem dX7_init_57 : decode cX7_init 57 = .ok (.new 35, 3) := by decide +kernel
theorem dX7_init_60 : decode cX7_init 60 = .ok (.dup, 1) := by decide +kernel
theorem dX7_init_61 : decode cX7_init 61 = .ok (.aload_n 0, 1) := by decide +kernel
theorem dX7_init_62 : decode cX7_init 62 = .ok (.getfield 10, 3) := by decide +kernel
theorem dX7_init_65 : decode cX7_init 65 = .ok (.invokespecial 37, 3) := by decide +kernel
theorem dX7_init_68 : decode cX7_init 68 = .ok (.putfield 38, 3) := by decide +kernel
theorem dX7_init_71 : decode cX7_init 71 = .ok (.aload_n 0, 1) := by decide +kernel
theorem dX7_init_72 : decode cX7_init 72 = .ok (.new 42, 3) := by decide +kernel
theorem dX7_init_75 : decode cX7_init 75 = .ok (.dup, 1) := by decide +kernel
theorem dX7_init_76 : decode cX7_init 76 = .ok (.invokespecial 44, 3) := by decide +kernel
theorem dX7_init_79 : decode cX7_init 79 = .ok (.putfield 45, 3) := by decide +kernel
theorem dX7_init_82 : decode cX7_init 82 = .ok (.aload_n 0, 1) := by decide +kernel
theorem dX7_init_83 : decode cX7_init 83 = .ok (.new 49, 3) := by decide +kernel
theorem dX7_init_86 : decode cX7_init 86 = .ok (.dup, 1) := by decide +kernel
theorem dX7_init_87 : decode cX7_init 87 = .ok (.invokespecial 51, 3) := by decide +kernel
theorem dX7_init_90 : decode cX7_init 90 = .ok (.putfield 52, 3) := by decide +kernel
theorem dX7_init_93 : decode cX7_init 93 = .ok (.aload_n 0, 1) := by decide +kernel
theorem dX7_init_94 : decode cX7_init 94 = .ok (.new 56, 3) := by decide +kernel
theorem dX7_init_97 : decode cX7_init 97 = .ok (.dup, 1) := by decide +kernel
theorem dX7_init_98 : decode cX7_init 98 = .ok (.invokespecial 58, 3) := by decide +kernel
theorem dX7_init_101 : decode cX7_init 101 = .ok (.putfield 59, 3) := by decide +kernel
theorem dX7_init_104 : decode cX7_init 104 = .ok (.aload_n 0, 1) := by decide +kernel
theorem dX7_init_105 : decode cX7_init 105 = .ok (.bipush 61, 2) := by decide +kernel
theorem dX7_init_107 : decode cX7_init 107 = .ok (.newarray .int, 2) := by decide +kernel
theorem dX7_init_109 : decode cX7_init 109 = .ok (.putfield 63, 3) := by decide +kernel
theorem dX7_init_112 : decode cX7_init 112 = .ok (.aload_n 0, 1) := by decide +kernel
theorem dX7_init_113 : decode cX7_init 113 = .ok (.iconst 0, 1) := by decide +kernel
theorem dX7_init_114 : decode cX7_init 114 = .ok (.putfield 67, 3) := by decide +kernel
theorem dX7_init_117 : decode cX7_init 117 = .ok (.return_, 1) := by decide +kernel
theorem dX7_mile_0 : decode cX7_mile 0 = .ok (.iconst 0, 1) := by decide +kernel
theorem dX7_mile_1 : decode cX7_mile 1 = .ok (.iload_n 1, 1) := by decide +kernel
theorem dX7_mile_2 : decode cX7_mile 2 = .ok (.invokestatic 71, 3) := by decide +kernel
theorem dX7_mile_5 : decode cX7_mile 5 = .ok (.ifCond .eq 11, 3) := by decide +kernel
theorem dX7_mile_8 : decode cX7_mile 8 = .ok (.iconst 1, 1) := by decide +kernel
theorem dX7_mile_9 : decode cX7_mile 9 = .ok (.iload_n 2, 1) := by decide +kernel
theorem dX7_mile_10 : decode cX7_mile 10 = .ok (.invokestatic 71, 3) := by decide +kernel
theorem dX7_mile_13 : decode cX7_mile 13 = .ok (.ifCond .ne 5, 3) := by decide +kernel
theorem dX7_mile_16 : decode cX7_mile 16 = .ok (.iconst (-1), 1) := by decide +kernel
theorem dX7_mile_17 : decode cX7_mile 17 = .ok (.ireturn, 1) := by decide +kernel
theorem dX7_mile_18 : decode cX7_mile 18 = .ok (.aload_n 0, 1) := by decide +kernel
theorem dX7_mile_19 : decode cX7_mile 19 = .ok (.getfield 10, 3) := by decide +kernel
theorem dX7_mile_22 : decode cX7_mile 22 = .ok (.iload_n 1, 1) := by decide +kernel
theorem dX7_mile_23 : decode cX7_mile 23 = .ok (.iload_n 2, 1) := by decide +kernel
theorem dX7_mile_24 : decode cX7_mile 24 = .ok (.invokevirtual 75, 3) := by decide +kernel
theorem dX7_mile_27 : decode cX7_mile 27 = .ok (.ireturn, 1) := by decide +kernel
theorem dX7_make_0 : decode cX7_make 0 = .ok (.aload_n 0, 1) := by decide +kernel
theorem dX7_make_1 : decode cX7_make 1 = .ok (.getfield 10, 3) := by decide +kernel
theorem dX7_make_4 : decode cX7_make 4 = .ok (.iload_n 1, 1) := by decide +kernel
theorem dX7_make_5 : decode cX7_make 5 = .ok (.invokevirtual 79, 3) := by decide +kernel
theorem dX7_make_8 : decode cX7_make 8 = .ok (.ifCond .eq 20, 3) := by decide +kernel
theorem dX7_make_11 : decode cX7_make 11 = .ok (.iload_n 2, 1) := by decide +kernel
theorem dX7_make_12 : decode cX7_make 12 = .ok (.iconst 0, 1) := by decide +kernel
theorem dX7_make_13 : decode cX7_make 13 = .ok (.iconst 4, 1) := by decide +kernel
theorem dX7_make_14 : decode cX7_make 14 = .ok (.invokestatic 83, 3) := by decide +kernel
theorem dX7_make_17 : decode cX7_make 17 = .ok (.ifCond .eq 11, 3) := by decide +kernel
theorem dX7_make_20 : decode cX7_make 20 = .ok (.iload_n 2, 1) := by decide +kernel
theorem dX7_make_21 : decode cX7_make 21 = .ok (.iload_n 3, 1) := by decide +kernel
theorem dX7_make_22 : decode cX7_make 22 = .ok (.invokestatic 71, 3) := by decide +kernel
theorem dX7_make_25 : decode cX7_make 25 = .ok (.ifCond .ne 5, 3) := by decide +kernel
theorem dX7_make_28 : decode cX7_make 28 = .ok (.iconst (-1), 1) := by decide +kernel
theorem dX7_make_29 : decode cX7_make 29 = .ok (.ireturn, 1) := by decide +kernel
theorem dX7_make_30 : decode cX7_make 30 = .ok (.aload_n 0, 1) := by decide +kernel
theorem dX7_make_31 : decode cX7_make 31 = .ok (.getfield 10, 3) := by decide +kernel
theorem dX7_make_34 : decode cX7_make 34 = .ok (.iload_n 1, 1) := by decide +kernel
theorem dX7_make_35 : decode cX7_make 35 = .ok (.iload_n 2, 1) := by decide +kernel
theorem dX7_make_36 : decode cX7_make 36 = .ok (.iload_n 3, 1) := by decide +kernel
theorem dX7_make_37 : decode cX7_make 37 = .ok (.invokevirtual 87, 3) := by decide +kernel
theorem dX7_make_40 : decode cX7_make 40 = .ok (.ireturn, 1) := by decide +kernel
theorem dX7_told_0 : decode cX7_told 0 = .ok (.aload_n 0, 1) := by decide +kernel
theorem dX7_told_1 : decode cX7_told 1 = .ok (.getfield 10, 3) := by decide +kernel
theorem dX7_told_4 : decode cX7_told 4 = .ok (.iload_n 1, 1) := by decide +kernel
theorem dX7_told_5 : decode cX7_told 5 = .ok (.invokevirtual 79, 3) := by decide +kernel
theorem dX7_told_8 : decode cX7_told 8 = .ok (.ifCond .eq 12, 3) := by decide +kernel
theorem dX7_told_11 : decode cX7_told 11 = .ok (.iload_n 2, 1) := by decide +kernel
theorem dX7_told_12 : decode cX7_told 12 = .ok (.iconst 0, 1) := by decide +kernel
theorem dX7_told_13 : decode cX7_told 13 = .ok (.iconst 5, 1) := by decide +kernel
theorem dX7_told_14 : decode cX7_told 14 = .ok (.invokestatic 83, 3) := by decide +kernel
theorem dX7_told_17 : decode cX7_told 17 = .ok (.ifCond .ne 5, 3) := by decide +kernel
theorem dX7_told_20 : decode cX7_told 20 = .ok (.iconst (-1), 1) := by decide +kernel
theorem dX7_told_21 : decode cX7_told 21 = .ok (.ireturn, 1) := by decide +kernel
theorem dX7_told_22 : decode cX7_told 22 = .ok (.aload_n 0, 1) := by decide +kernel
theorem dX7_told_23 : decode cX7_told 23 = .ok (.getfield 10, 3) := by decide +kernel
theorem dX7_told_26 : decode cX7_told 26 = .ok (.iload_n 1, 1) := by decide +kernel
theorem dX7_told_27 : decode cX7_told 27 = .ok (.iload_n 2, 1) := by decide +kernel
theorem dX7_told_28 : decode cX7_told 28 = .ok (.invokevirtual 91, 3) := by decide +kernel
theorem dX7_told_31 : decode cX7_told 31 = .ok (.ireturn, 1) := by decide +kernel
theorem dX7_height_0 : decode cX7_height 0 = .ok (.iload_n 1, 1) := by decide +kernel
theorem dX7_height_1 : decode cX7_height 1 = .ok (.iconst 0, 1) := by decide +kernel
theorem dX7_height_2 : decode cX7_height 2 = .ok (.bipush 23, 2) := by decide +kernel
theorem dX7_height_4 : decode cX7_height 4 = .ok (.invokestatic 83, 3) := by decide +kernel
theorem dX7_height_7 : decode cX7_height 7 = .ok (.ifCond .eq 13, 3) := by decide +kernel
theorem dX7_height_10 : decode cX7_height 10 = .ok (.iload_n 2, 1) := by decide +kernel
theorem dX7_height_11 : decode cX7_height 11 = .ok (.iconst 0, 1) := by decide +kernel
theorem dX7_height_12 : decode cX7_height 12 = .ok (.bipush 99, 2) := by decide +kernel
theorem dX7_height_14 : decode cX7_height 14 = .ok (.invokestatic 83, 3) := by decide +kernel
theorem dX7_height_17 : decode cX7_height 17 = .ok (.ifCond .ne 5, 3) := by decide +kernel
theorem dX7_height_20 : decode cX7_height 20 = .ok (.iconst (-1), 1) := by decide +kernel
theorem dX7_height_21 : decode cX7_height 21 = .ok (.ireturn, 1) := by decide +kernel
theorem dX7_height_22 : decode cX7_height 22 = .ok (.aload_n 0, 1) := by decide +kernel
theorem dX7_height_23 : decode cX7_height 23 = .ok (.getfield 10, 3) := by decide +kernel
theorem dX7_height_26 : decode cX7_height 26 = .ok (.getfield 94, 3) := by decide +kernel
theorem dX7_height_29 : decode cX7_height 29 = .ok (.iload_n 1, 1) := by decide +kernel
theorem dX7_height_30 : decode cX7_height 30 = .ok (.iaload, 1) := by decide +kernel
theorem dX7_height_31 : decode cX7_height 31 = .ok (.istore_n 3, 1) := by decide +kernel
theorem dX7_height_32 : decode cX7_height 32 = .ok (.aload_n 0, 1) := by decide +kernel
theorem dX7_height_33 : decode cX7_height 33 = .ok (.getfield 10, 3) := by decide +kernel
theorem dX7_height_36 : decode cX7_height 36 = .ok (.getfield 94, 3) := by decide +kernel
theorem dX7_height_39 : decode cX7_height 39 = .ok (.iload_n 1, 1) := by decide +kernel
theorem dX7_height_40 : decode cX7_height 40 = .ok (.iload_n 2, 1) := by decide +kernel
theorem dX7_height_41 : decode cX7_height 41 = .ok (.iastore, 1) := by decide +kernel
theorem dX7_height_42 : decode cX7_height 42 = .ok (.iload_n 3, 1) := by decide +kernel
theorem dX7_height_43 : decode cX7_height 43 = .ok (.ireturn, 1) := by decide +kernel
theorem dX7_set_0 : decode cX7_set 0 = .ok (.iload_n 1, 1) := by decide +kernel
theorem dX7_set_1 : decode cX7_set 1 = .ok (.iconst 0, 1) := by decide +kernel
theorem dX7_set_2 : decode cX7_set 2 = .ok (.iconst 4, 1) := by decide +kernel
theorem dX7_set_3 : decode cX7_set 3 = .ok (.invokestatic 83, 3) := by decide +kernel
theorem dX7_set_6 : decode cX7_set 6 = .ok (.ifCond .eq 16, 3) := by decide +kernel
theorem dX7_set_9 : decode cX7_set 9 = .ok (.iload_n 2, 1) := by decide +kernel
theorem dX7_set_10 : decode cX7_set 10 = .ok (.iconst 0, 1) := by decide +kernel
theorem dX7_set_11 : decode cX7_set 11 = .ok (.getstatic 97, 3) := by decide +kernel
theorem dX7_set_14 : decode cX7_set 14 = .ok (.iload_n 1, 1) := by decide +kernel
theorem dX7_set_15 : decode cX7_set 15 = .ok (.iaload, 1) := by decide +kernel
theorem dX7_set_16 : decode cX7_set 16 = .ok (.invokestatic 83, 3) := by decide +kernel
theorem dX7_set_19 : decode cX7_set 19 = .ok (.ifCond .ne 5, 3) := by decide +kernel
theorem dX7_set_22 : decode cX7_set 22 = .ok (.iconst (-1), 1) := by decide +kernel
theorem dX7_set_23 : decode cX7_set 23 = .ok (.ireturn, 1) := by decide +kernel
theorem dX7_set_24 : decode cX7_set 24 = .ok (.aload_n 0, 1) := by decide +kernel
theorem dX7_set_25 : decode cX7_set 25 = .ok (.getfield 10, 3) := by decide +kernel
theorem dX7_set_28 : decode cX7_set 28 = .ok (.getfield 100, 3) := by decide +kernel
theorem dX7_set_31 : decode cX7_set 31 = .ok (.iload_n 1, 1) := by decide +kernel
theorem dX7_set_32 : decode cX7_set 32 = .ok (.iaload, 1) := by decide +kernel
theorem dX7_set_33 : decode cX7_set 33 = .ok (.istore_n 3, 1) := by decide +kernel
theorem dX7_set_34 : decode cX7_set 34 = .ok (.aload_n 0, 1) := by decide +kernel
theorem dX7_set_35 : decode cX7_set 35 = .ok (.getfield 10, 3) := by decide +kernel
theorem dX7_set_38 : decode cX7_set 38 = .ok (.getfield 100, 3) := by decide +kernel
theorem dX7_set_41 : decode cX7_set 41 = .ok (.iload_n 1, 1) := by decide +kernel
theorem dX7_set_42 : decode cX7_set 42 = .ok (.iload_n 2, 1) := by decide +kernel
theorem dX7_set_43 : decode cX7_set 43 = .ok (.iastore, 1) := by decide +kernel
theorem dX7_set_44 : decode cX7_set 44 = .ok (.iload_n 3, 1) := by decide +kernel
theorem dX7_set_45 : decode cX7_set 45 = .ok (.ireturn, 1) := by decide +kernel
theorem dX7_ship_0 : decode cX7_ship 0 = .ok (.iload_n 1, 1) := by decide +kernel
theorem dX7_ship_1 : decode cX7_ship 1 = .ok (.bipush 20, 2) := by decide +kernel
theorem dX7_ship_3 : decode cX7_ship 3 = .ok (.sipush 200, 3) := by decide +kernel
theorem dX7_ship_6 : decode cX7_ship 6 = .ok (.invokestatic 83, 3) := by decide +kernel
theorem dX7_ship_9 : decode cX7_ship 9 = .ok (.ifCond .eq 23, 3) := by decide +kernel
theorem dX7_ship_12 : decode cX7_ship 12 = .ok (.iload_n 2, 1) := by decide +kernel
theorem dX7_ship_13 : decode cX7_ship 13 = .ok (.iconst 1, 1) := by decide +kernel
theorem dX7_ship_14 : decode cX7_ship 14 = .ok (.bipush 40, 2) := by decide +kernel
theorem dX7_ship_16 : decode cX7_ship 16 = .ok (.invokestatic 83, 3) := by decide +kernel
theorem dX7_ship_19 : decode cX7_ship 19 = .ok (.ifCond .eq 13, 3) := by decide +kernel
theorem dX7_ship_22 : decode cX7_ship 22 = .ok (.iload_n 3, 1) := by decide +kernel
theorem dX7_ship_23 : decode cX7_ship 23 = .ok (.iconst 1, 1) := by decide +kernel
theorem dX7_ship_24 : decode cX7_ship 24 = .ok (.bipush 99, 2) := by decide +kernel
theorem dX7_ship_26 : decode cX7_ship 26 = .ok (.invokestatic 83, 3) := by decide +kernel
theorem dX7_ship_29 : decode cX7_ship 29 = .ok (.ifCond .ne 5, 3) := by decide +kernel
theorem dX7_ship_32 : decode cX7_ship 32 = .ok (.iconst (-1), 1) := by decide +kernel
theorem dX7_ship_33 : decode cX7_ship 33 = .ok (.ireturn, 1) := by decide +kernel
theorem dX7_ship_34 : decode cX7_ship 34 = .ok (.aload_n 0, 1) := by decide +kernel
theorem dX7_ship_35 : decode cX7_ship 35 = .ok (.getfield 10, 3) := by decide +kernel
theorem dX7_ship_38 : decode cX7_ship 38 = .ok (.iload_n 1, 1) := by decide +kernel
theorem dX7_ship_39 : decode cX7_ship 39 = .ok (.iload_n 2, 1) := by decide +kernel
theorem dX7_ship_40 : decode cX7_ship 40 = .ok (.iload_n 3, 1) := by decide +kernel
theorem dX7_ship_41 : decode cX7_ship 41 = .ok (.invokevirtual 103, 3) := by decide +kernel
theorem dX7_ship_44 : decode cX7_ship 44 = .ok (.ireturn, 1) := by decide +kernel
theorem dX7_pace_0 : decode cX7_pace 0 = .ok (.aload_n 0, 1) := by decide +kernel
theorem dX7_pace_1 : decode cX7_pace 1 = .ok (.getfield 10, 3) := by decide +kernel
theorem dX7_pace_4 : decode cX7_pace 4 = .ok (.iload_n 1, 1) := by decide +kernel
theorem dX7_pace_5 : decode cX7_pace 5 = .ok (.invokevirtual 79, 3) := by decide +kernel
theorem dX7_pace_8 : decode cX7_pace 8 = .ok (.ifCond .eq 10, 3) := by decide +kernel
theorem dX7_pace_11 : decode cX7_pace 11 = .ok (.iload_n 2, 1) := by decide +kernel
theorem dX7_pace_12 : decode cX7_pace 12 = .ok (.invokestatic 106, 3) := by decide +kernel
theorem dX7_pace_15 : decode cX7_pace 15 = .ok (.ifCond .ne 5, 3) := by decide +kernel
theorem dX7_pace_18 : decode cX7_pace 18 = .ok (.iconst (-1), 1) := by decide +kernel
theorem dX7_pace_19 : decode cX7_pace 19 = .ok (.ireturn, 1) := by decide +kernel
theorem dX7_pace_20 : decode cX7_pace 20 = .ok (.aload_n 0, 1) := by decide +kernel
theorem dX7_pace_21 : decode cX7_pace 21 = .ok (.getfield 10, 3) := by decide +kernel
theorem dX7_pace_24 : decode cX7_pace 24 = .ok (.iload_n 1, 1) := by decide +kernel
theorem dX7_pace_25 : decode cX7_pace 25 = .ok (.iconst 5, 1) := by decide +kernel
theorem dX7_pace_26 : decode cX7_pace 26 = .ok (.iload_n 2, 1) := by decide +kernel
theorem dX7_pace_27 : decode cX7_pace 27 = .ok (.invokevirtual 87, 3) := by decide +kernel
theorem dX7_pace_30 : decode cX7_pace 30 = .ok (.ireturn, 1) := by decide +kernel
theorem dX7_type_0 : decode cX7_type 0 = .ok (.aload_n 0, 1) := by decide +kernel
theorem dX7_type_1 : decode cX7_type 1 = .ok (.getfield 52, 3) := by decide +kernel
theorem dX7_type_4 : decode cX7_type 4 = .ok (.lload_n 1, 1) := by decide +kernel
theorem dX7_type_5 : decode cX7_type 5 = .ok (.iload_n 3, 1) := by decide +kernel
theorem dX7_type_6 : decode cX7_type 6 = .ok (.invokevirtual 109, 3) := by decide +kernel
theorem dX7_type_9 : decode cX7_type 9 = .ok (.ireturn, 1) := by decide +kernel
theorem dX7_channel_0 : decode cX7_channel 0 = .ok (.aload_n 0, 1) := by decide +kernel
theorem dX7_channel_1 : decode cX7_channel 1 = .ok (.getfield 52, 3) := by decide +kernel
theorem dX7_channel_4 : decode cX7_channel 4 = .ok (.invokevirtual 113, 3) := by decide +kernel
theorem dX7_channel_7 : decode cX7_channel 7 = .ok (.istore_n 1, 1) := by decide +kernel
theorem dX7_channel_8 : decode cX7_channel 8 = .ok (.iload_n 1, 1) := by decide +kernel
theorem dX7_channel_9 : decode cX7_channel 9 = .ok (.ifCond .le 18, 3) := by decide +kernel
theorem dX7_channel_12 : decode cX7_channel 12 = .ok (.aload_n 0, 1) := by decide +kernel
theorem dX7_channel_13 : decode cX7_channel 13 = .ok (.getfield 10, 3) := by decide +kernel
theorem dX7_channel_16 : decode cX7_channel 16 = .ok (.aload_n 0, 1) := by decide +kernel
theorem dX7_channel_17 : decode cX7_channel 17 = .ok (.getfield 52, 3) := by decide +kernel
theorem dX7_channel_20 : decode cX7_channel 20 = .ok (.getfield 117, 3) := by decide +kernel
theorem dX7_channel_23 : decode cX7_channel 23 = .ok (.iload_n 1, 1) := by decide +kernel
theorem dX7_channel_24 : decode cX7_channel 24 = .ok (.invokevirtual 120, 3) := by decide +kernel
theorem dX7_channel_27 : decode cX7_channel 27 = .ok (.iload_n 1, 1) := by decide +kernel
theorem dX7_channel_28 : decode cX7_channel 28 = .ok (.ireturn, 1) := by decide +kernel
theorem dX7_tides_0 : decode cX7_tides 0 = .ok (.aload_n 0, 1) := by decide +kernel
theorem dX7_tides_1 : decode cX7_tides 1 = .ok (.getfield 52, 3) := by decide +kernel
theorem dX7_tides_4 : decode cX7_tides 4 = .ok (.invokevirtual 124, 3) := by decide +kernel
theorem dX7_tides_7 : decode cX7_tides 7 = .ok (.istore_n 1, 1) := by decide +kernel
theorem dX7_tides_8 : decode cX7_tides 8 = .ok (.iload_n 1, 1) := by decide +kernel
theorem dX7_tides_9 : decode cX7_tides 9 = .ok (.ifCond .lt 24, 3) := by decide +kernel
theorem dX7_tides_12 : decode cX7_tides 12 = .ok (.aload_n 0, 1) := by decide +kernel
theorem dX7_tides_13 : decode cX7_tides 13 = .ok (.getfield 52, 3) := by decide +kernel
theorem dX7_tides_16 : decode cX7_tides 16 = .ok (.getfield 117, 3) := by decide +kernel
theorem dX7_tides_19 : decode cX7_tides 19 = .ok (.iconst 0, 1) := by decide +kernel
theorem dX7_tides_20 : decode cX7_tides 20 = .ok (.aload_n 0, 1) := by decide +kernel
theorem dX7_tides_21 : decode cX7_tides 21 = .ok (.getfield 10, 3) := by decide +kernel
theorem dX7_tides_24 : decode cX7_tides 24 = .ok (.getfield 94, 3) := by decide +kernel
theorem dX7_tides_27 : decode cX7_tides 27 = .ok (.iconst 0, 1) := by decide +kernel
theorem dX7_tides_28 : decode cX7_tides 28 = .ok (.bipush 24, 2) := by decide +kernel
theorem dX7_tides_30 : decode cX7_tides 30 = .ok (.invokestatic 127, 3) := by decide +kernel
theorem dX7_tides_33 : decode cX7_tides 33 = .ok (.iload_n 1, 1) := by decide +kernel
theorem dX7_tides_34 : decode cX7_tides 34 = .ok (.ireturn, 1) := by decide +kernel
theorem dX7_count_0 : decode cX7_count 0 = .ok (.iload_n 1, 1) := by decide +kernel
theorem dX7_count_1 : decode cX7_count 1 = .ok (.tableswitch 51 0 2 #[27, 35, 43], 27) := by decide +kernel
theorem dX7_count_28 : decode cX7_count 28 = .ok (.aload_n 0, 1) := by decide +kernel
theorem dX7_count_29 : decode cX7_count 29 = .ok (.getfield 10, 3) := by decide +kernel
theorem dX7_count_32 : decode cX7_count 32 = .ok (.getfield 133, 3) := by decide +kernel
theorem dX7_count_35 : decode cX7_count 35 = .ok (.ireturn, 1) := by decide +kernel
theorem dX7_count_36 : decode cX7_count 36 = .ok (.aload_n 0, 1) := by decide +kernel
theorem dX7_count_37 : decode cX7_count 37 = .ok (.getfield 10, 3) := by decide +kernel
theorem dX7_count_40 : decode cX7_count 40 = .ok (.getfield 137, 3) := by decide +kernel
theorem dX7_count_43 : decode cX7_count 43 = .ok (.ireturn, 1) := by decide +kernel
theorem dX7_count_44 : decode cX7_count 44 = .ok (.aload_n 0, 1) := by decide +kernel
theorem dX7_count_45 : decode cX7_count 45 = .ok (.getfield 10, 3) := by decide +kernel
theorem dX7_count_48 : decode cX7_count 48 = .ok (.invokevirtual 140, 3) := by decide +kernel
theorem dX7_count_51 : decode cX7_count 51 = .ok (.ireturn, 1) := by decide +kernel
theorem dX7_count_52 : decode cX7_count 52 = .ok (.iconst (-1), 1) := by decide +kernel
theorem dX7_count_53 : decode cX7_count 53 = .ok (.ireturn, 1) := by decide +kernel
theorem dX7_tide_0 : decode cX7_tide 0 = .ok (.iload_n 1, 1) := by decide +kernel
theorem dX7_tide_1 : decode cX7_tide 1 = .ok (.iconst 0, 1) := by decide +kernel
theorem dX7_tide_2 : decode cX7_tide 2 = .ok (.sipush 4000, 3) := by decide +kernel
theorem dX7_tide_5 : decode cX7_tide 5 = .ok (.invokestatic 83, 3) := by decide +kernel
theorem dX7_tide_8 : decode cX7_tide 8 = .ok (.ifCond .eq 14, 3) := by decide +kernel
theorem dX7_tide_11 : decode cX7_tide 11 = .ok (.aload_n 0, 1) := by decide +kernel
theorem dX7_tide_12 : decode cX7_tide 12 = .ok (.getfield 10, 3) := by decide +kernel
theorem dX7_tide_15 : decode cX7_tide 15 = .ok (.iload_n 1, 1) := by decide +kernel
theorem dX7_tide_16 : decode cX7_tide 16 = .ok (.invokevirtual 143, 3) := by decide +kernel
theorem dX7_tide_19 : decode cX7_tide 19 = .ok (.goto 4, 3) := by decide +kernel
theorem dX7_tide_22 : decode cX7_tide 22 = .ok (.iconst (-1), 1) := by decide +kernel
theorem dX7_tide_23 : decode cX7_tide 23 = .ok (.ireturn, 1) := by decide +kernel
theorem dX7_water_0 : decode cX7_water 0 = .ok (.aload_n 0, 1) := by decide +kernel
theorem dX7_water_1 : decode cX7_water 1 = .ok (.getfield 10, 3) := by decide +kernel
theorem dX7_water_4 : decode cX7_water 4 = .ok (.iload_n 1, 1) := by decide +kernel
theorem dX7_water_5 : decode cX7_water 5 = .ok (.invokevirtual 79, 3) := by decide +kernel
theorem dX7_water_8 : decode cX7_water 8 = .ok (.ifCond .eq 14, 3) := by decide +kernel
theorem dX7_water_11 : decode cX7_water 11 = .ok (.iload_n 2, 1) := by decide +kernel
theorem dX7_water_12 : decode cX7_water 12 = .ok (.iconst 0, 1) := by decide +kernel
theorem dX7_water_13 : decode cX7_water 13 = .ok (.sipush 4000, 3) := by decide +kernel
theorem dX7_water_16 : decode cX7_water 16 = .ok (.invokestatic 83, 3) := by decide +kernel
theorem dX7_water_19 : decode cX7_water 19 = .ok (.ifCond .ne 6, 3) := by decide +kernel
theorem dX7_water_22 : decode cX7_water 22 = .ok (.ldc 147, 2) := by decide +kernel
theorem dX7_water_24 : decode cX7_water 24 = .ok (.ireturn, 1) := by decide +kernel
theorem dX7_water_25 : decode cX7_water 25 = .ok (.aload_n 0, 1) := by decide +kernel
theorem dX7_water_26 : decode cX7_water 26 = .ok (.getfield 10, 3) := by decide +kernel
theorem dX7_water_29 : decode cX7_water 29 = .ok (.iload_n 1, 1) := by decide +kernel
theorem dX7_water_30 : decode cX7_water 30 = .ok (.aload_n 0, 1) := by decide +kernel
theorem dX7_water_31 : decode cX7_water 31 = .ok (.getfield 10, 3) := by decide +kernel
theorem dX7_water_34 : decode cX7_water 34 = .ok (.iload_n 2, 1) := by decide +kernel
theorem dX7_water_35 : decode cX7_water 35 = .ok (.invokevirtual 143, 3) := by decide +kernel
theorem dX7_water_38 : decode cX7_water 38 = .ok (.aload_n 0, 1) := by decide +kernel
theorem dX7_water_39 : decode cX7_water 39 = .ok (.getfield 10, 3) := by decide +kernel
theorem dX7_water_42 : decode cX7_water 42 = .ok (.getfield 100, 3) := by decide +kernel
theorem dX7_water_45 : decode cX7_water 45 = .ok (.iconst 1, 1) := by decide +kernel
theorem dX7_water_46 : decode cX7_water 46 = .ok (.iaload, 1) := by decide +kernel
theorem dX7_water_47 : decode cX7_water 47 = .ok (.invokevirtual 148, 3) := by decide +kernel
theorem dX7_water_50 : decode cX7_water 50 = .ok (.ireturn, 1) := by decide +kernel
theorem dX7_sinks_0 : decode cX7_sinks 0 = .ok (.aload_n 0, 1) := by decide +kernel
theorem dX7_sinks_1 : decode cX7_sinks 1 = .ok (.iload_n 1, 1) := by decide +kernel
theorem dX7_sinks_2 : decode cX7_sinks 2 = .ok (.iload_n 2, 1) := by decide +kernel
theorem dX7_sinks_3 : decode cX7_sinks 3 = .ok (.iload_n 3, 1) := by decide +kernel
theorem dX7_sinks_4 : decode cX7_sinks 4 = .ok (.iload 4, 2) := by decide +kernel
theorem dX7_sinks_6 : decode cX7_sinks 6 = .ok (.invokevirtual 151, 3) := by decide +kernel
theorem dX7_sinks_9 : decode cX7_sinks 9 = .ok (.ifCond .ne 5, 3) := by decide +kernel
theorem dX7_sinks_12 : decode cX7_sinks 12 = .ok (.iconst (-1), 1) := by decide +kernel
theorem dX7_sinks_13 : decode cX7_sinks 13 = .ok (.ireturn, 1) := by decide +kernel
theorem dX7_sinks_14 : decode cX7_sinks 14 = .ok (.aload_n 0, 1) := by decide +kernel
theorem dX7_sinks_15 : decode cX7_sinks 15 = .ok (.getfield 24, 3) := by decide +kernel
theorem dX7_sinks_18 : decode cX7_sinks 18 = .ok (.iload_n 1, 1) := by decide +kernel
theorem dX7_sinks_19 : decode cX7_sinks 19 = .ok (.invokevirtual 155, 3) := by decide +kernel
theorem dX7_sinks_22 : decode cX7_sinks 22 = .ok (.aload_n 0, 1) := by decide +kernel
theorem dX7_sinks_23 : decode cX7_sinks 23 = .ok (.getfield 24, 3) := by decide +kernel
theorem dX7_sinks_26 : decode cX7_sinks 26 = .ok (.iload_n 2, 1) := by decide +kernel
theorem dX7_sinks_27 : decode cX7_sinks 27 = .ok (.aload_n 0, 1) := by decide +kernel
theorem dX7_sinks_28 : decode cX7_sinks 28 = .ok (.getfield 24, 3) := by decide +kernel
theorem dX7_sinks_31 : decode cX7_sinks 31 = .ok (.iload_n 2, 1) := by decide +kernel
theorem dX7_sinks_32 : decode cX7_sinks 32 = .ok (.aload_n 0, 1) := by decide +kernel
theorem dX7_sinks_33 : decode cX7_sinks 33 = .ok (.getfield 10, 3) := by decide +kernel
theorem dX7_sinks_36 : decode cX7_sinks 36 = .ok (.iload_n 3, 1) := by decide +kernel
theorem dX7_sinks_37 : decode cX7_sinks 37 = .ok (.invokevirtual 143, 3) := by decide +kernel
theorem dX7_sinks_40 : decode cX7_sinks 40 = .ok (.invokevirtual 159, 3) := by decide +kernel
theorem dX7_sinks_43 : decode cX7_sinks 43 = .ok (.iload 4, 2) := by decide +kernel
theorem dX7_sinks_45 : decode cX7_sinks 45 = .ok (.invokevirtual 162, 3) := by decide +kernel
theorem dX7_sinks_48 : decode cX7_sinks 48 = .ok (.ireturn, 1) := by decide +kernel
theorem dX7_under_0 : decode cX7_under 0 = .ok (.aload_n 0, 1) := by decide +kernel
theorem dX7_under_1 : decode cX7_under 1 = .ok (.iload_n 1, 1) := by decide +kernel
theorem dX7_under_2 : decode cX7_under 2 = .ok (.iload_n 2, 1) := by decide +kernel
theorem dX7_under_3 : decode cX7_under 3 = .ok (.iload_n 3, 1) := by decide +kernel
theorem dX7_under_4 : decode cX7_under 4 = .ok (.iload 4, 2) := by decide +kernel
theorem dX7_under_6 : decode cX7_under 6 = .ok (.invokevirtual 151, 3) := by decide +kernel
theorem dX7_under_9 : decode cX7_under 9 = .ok (.ifCond .ne 6, 3) := by decide +kernel
theorem dX7_under_12 : decode cX7_under 12 = .ok (.ldc 147, 2) := by decide +kernel
theorem dX7_under_14 : decode cX7_under 14 = .ok (.ireturn, 1) := by decide +kernel
theorem dX7_under_15 : decode cX7_under 15 = .ok (.aload_n 0, 1) := by decide +kernel
theorem dX7_under_16 : decode cX7_under 16 = .ok (.getfield 24, 3) := by decide +kernel
theorem dX7_under_19 : decode cX7_under 19 = .ok (.iload_n 1, 1) := by decide +kernel
theorem dX7_under_20 : decode cX7_under 20 = .ok (.invokevirtual 155, 3) := by decide +kernel
theorem dX7_under_23 : decode cX7_under 23 = .ok (.aload_n 0, 1) := by decide +kernel
theorem dX7_under_24 : decode cX7_under 24 = .ok (.getfield 24, 3) := by decide +kernel
theorem dX7_under_27 : decode cX7_under 27 = .ok (.iload_n 2, 1) := by decide +kernel
theorem dX7_under_28 : decode cX7_under 28 = .ok (.aload_n 0, 1) := by decide +kernel
theorem dX7_under_29 : decode cX7_under 29 = .ok (.getfield 10, 3) := by decide +kernel
theorem dX7_under_32 : decode cX7_under 32 = .ok (.iload_n 3, 1) := by decide +kernel
theorem dX7_under_33 : decode cX7_under 33 = .ok (.invokevirtual 143, 3) := by decide +kernel
theorem dX7_under_36 : decode cX7_under 36 = .ok (.iload 4, 2) := by decide +kernel
theorem dX7_under_38 : decode cX7_under 38 = .ok (.invokevirtual 165, 3) := by decide +kernel
theorem dX7_under_41 : decode cX7_under 41 = .ok (.ireturn, 1) := by decide +kernel
theorem dX7_need_0 : decode cX7_need 0 = .ok (.aload_n 0, 1) := by decide +kernel
theorem dX7_need_1 : decode cX7_need 1 = .ok (.getfield 10, 3) := by decide +kernel
theorem dX7_need_4 : decode cX7_need 4 = .ok (.iload_n 1, 1) := by decide +kernel
theorem dX7_need_5 : decode cX7_need 5 = .ok (.invokevirtual 168, 3) := by decide +kernel
theorem dX7_need_8 : decode cX7_need 8 = .ok (.ifCond .ne 5, 3) := by decide +kernel
theorem dX7_need_11 : decode cX7_need 11 = .ok (.iconst (-1), 1) := by decide +kernel
theorem dX7_need_12 : decode cX7_need 12 = .ok (.ireturn, 1) := by decide +kernel
theorem dX7_need_13 : decode cX7_need 13 = .ok (.aload_n 0, 1) := by decide +kernel
theorem dX7_need_14 : decode cX7_need 14 = .ok (.getfield 24, 3) := by decide +kernel
theorem dX7_need_17 : decode cX7_need 17 = .ok (.iload_n 1, 1) := by decide +kernel
theorem dX7_need_18 : decode cX7_need 18 = .ok (.invokevirtual 155, 3) := by decide +kernel
theorem dX7_need_21 : decode cX7_need 21 = .ok (.aload_n 0, 1) := by decide +kernel
theorem dX7_need_22 : decode cX7_need 22 = .ok (.getfield 24, 3) := by decide +kernel
theorem dX7_need_25 : decode cX7_need 25 = .ok (.getfield 171, 3) := by decide +kernel
theorem dX7_need_28 : decode cX7_need 28 = .ok (.ireturn, 1) := by decide +kernel
theorem dX7_run_0 : decode cX7_run 0 = .ok (.aload_n 0, 1) := by decide +kernel
theorem dX7_run_1 : decode cX7_run 1 = .ok (.iload_n 1, 1) := by decide +kernel
theorem dX7_run_2 : decode cX7_run 2 = .ok (.iload_n 2, 1) := by decide +kernel
theorem dX7_run_3 : decode cX7_run 3 = .ok (.invokevirtual 174, 3) := by decide +kernel
theorem dX7_run_6 : decode cX7_run 6 = .ok (.ifCond .eq 12, 3) := by decide +kernel
theorem dX7_run_9 : decode cX7_run 9 = .ok (.iload_n 3, 1) := by decide +kernel
theorem dX7_run_10 : decode cX7_run 10 = .ok (.iconst 0, 1) := by decide +kernel
theorem dX7_run_11 : decode cX7_run 11 = .ok (.iconst 3, 1) := by decide +kernel
theorem dX7_run_12 : decode cX7_run 12 = .ok (.invokestatic 83, 3) := by decide +kernel
theorem dX7_run_15 : decode cX7_run 15 = .ok (.ifCond .ne 5, 3) := by decide +kernel
theorem dX7_run_18 : decode cX7_run 18 = .ok (.iconst (-1), 1) := by decide +kernel
theorem dX7_run_19 : decode cX7_run 19 = .ok (.ireturn, 1) := by decide +kernel
theorem dX7_run_20 : decode cX7_run 20 = .ok (.aload_n 0, 1) := by decide +kernel
theorem dX7_run_21 : decode cX7_run 21 = .ok (.getfield 10, 3) := by decide +kernel
theorem dX7_run_24 : decode cX7_run 24 = .ok (.getfield 133, 3) := by decide +kernel
theorem dX7_run_27 : decode cX7_run 27 = .ok (.ifCond .ne 6, 3) := by decide +kernel
theorem dX7_run_30 : decode cX7_run 30 = .ok (.bipush (-2), 2) := by decide +kernel
theorem dX7_run_32 : decode cX7_run 32 = .ok (.ireturn, 1) := by decide +kernel
theorem dX7_run_33 : decode cX7_run 33 = .ok (.aload_n 0, 1) := by decide +kernel
theorem dX7_run_34 : decode cX7_run 34 = .ok (.getfield 24, 3) := by decide +kernel
theorem dX7_run_37 : decode cX7_run 37 = .ok (.iload_n 1, 1) := by decide +kernel
theorem dX7_run_38 : decode cX7_run 38 = .ok (.invokevirtual 155, 3) := by decide +kernel
theorem dX7_run_41 : decode cX7_run 41 = .ok (.aload_n 0, 1) := by decide +kernel
theorem dX7_run_42 : decode cX7_run 42 = .ok (.getfield 31, 3) := by decide +kernel
theorem dX7_run_45 : decode cX7_run 45 = .ok (.aload_n 0, 1) := by decide +kernel
theorem dX7_run_46 : decode cX7_run 46 = .ok (.getfield 24, 3) := by decide +kernel
theorem dX7_run_49 : decode cX7_run 49 = .ok (.iload_n 2, 1) := by decide +kernel
theorem dX7_run_50 : decode cX7_run 50 = .ok (.invokevirtual 177, 3) := by decide +kernel
theorem dX7_run_53 : decode cX7_run 53 = .ok (.iload_n 3, 1) := by decide +kernel
theorem dX7_run_54 : decode cX7_run 54 = .ok (.tableswitch 53 0 2 #[26, 34, 42], 26) := by decide +kernel
theorem dX7_run_80 : decode cX7_run 80 = .ok (.aload_n 0, 1) := by decide +kernel
theorem dX7_run_81 : decode cX7_run 81 = .ok (.getfield 31, 3) := by decide +kernel
theorem dX7_run_84 : decode cX7_run 84 = .ok (.getfield 181, 3) := by decide +kernel
theorem dX7_run_87 : decode cX7_run 87 = .ok (.ireturn, 1) := by decide +kernel
theorem dX7_run_88 : decode cX7_run 88 = .ok (.aload_n 0, 1) := by decide +kernel
theorem dX7_run_89 : decode cX7_run 89 = .ok (.getfield 31, 3) := by decide +kernel
theorem dX7_run_92 : decode cX7_run 92 = .ok (.getfield 184, 3) := by decide +kernel
theorem dX7_run_95 : decode cX7_run 95 = .ok (.ireturn, 1) := by decide +kernel
theorem dX7_run_96 : decode cX7_run 96 = .ok (.aload_n 0, 1) := by decide +kernel
theorem dX7_run_97 : decode cX7_run 97 = .ok (.getfield 31, 3) := by decide +kernel
theorem dX7_run_100 : decode cX7_run 100 = .ok (.getfield 187, 3) := by decide +kernel
theorem dX7_run_103 : decode cX7_run 103 = .ok (.ldc 190, 2) := by decide +kernel
theorem dX7_run_105 : decode cX7_run 105 = .ok (.iadd, 1) := by decide +kernel
theorem dX7_run_106 : decode cX7_run 106 = .ok (.ireturn, 1) := by decide +kernel
theorem dX7_run_107 : decode cX7_run 107 = .ok (.aload_n 0, 1) := by decide +kernel
theorem dX7_run_108 : decode cX7_run 108 = .ok (.getfield 31, 3) := by decide +kernel
theorem dX7_run_111 : decode cX7_run 111 = .ok (.getfield 187, 3) := by decide +kernel
theorem dX7_run_114 : decode cX7_run 114 = .ok (.aload_n 0, 1) := by decide +kernel
theorem dX7_run_115 : decode cX7_run 115 = .ok (.getfield 24, 3) := by decide +kernel
theorem dX7_run_118 : decode cX7_run 118 = .ok (.getfield 171, 3) := by decide +kernel
theorem dX7_run_121 : decode cX7_run 121 = .ok (.if_icmp .lt 7, 3) := by decide +kernel
theorem dX7_run_124 : decode cX7_run 124 = .ok (.iconst 1, 1) := by decide +kernel
theorem dX7_run_125 : decode cX7_run 125 = .ok (.goto 4, 3) := by decide +kernel
theorem dX7_run_128 : decode cX7_run 128 = .ok (.iconst 0, 1) := by decide +kernel
theorem dX7_run_129 : decode cX7_run 129 = .ok (.ireturn, 1) := by decide +kernel
theorem dX7_least_0 : decode cX7_least 0 = .ok (.aload_n 0, 1) := by decide +kernel
theorem dX7_least_1 : decode cX7_least 1 = .ok (.iload_n 1, 1) := by decide +kernel
theorem dX7_least_2 : decode cX7_least 2 = .ok (.iload_n 2, 1) := by decide +kernel
theorem dX7_least_3 : decode cX7_least 3 = .ok (.iload_n 3, 1) := by decide +kernel
theorem dX7_least_4 : decode cX7_least 4 = .ok (.iconst (-1), 1) := by decide +kernel
theorem dX7_least_5 : decode cX7_least 5 = .ok (.invokevirtual 191, 3) := by decide +kernel
theorem dX7_least_8 : decode cX7_least 8 = .ok (.istore 4, 2) := by decide +kernel
theorem dX7_least_10 : decode cX7_least 10 = .ok (.iload 4, 2) := by decide +kernel
theorem dX7_least_12 : decode cX7_least 12 = .ok (.ifCond .eq 6, 3) := by decide +kernel
theorem dX7_least_15 : decode cX7_least 15 = .ok (.iload 4, 2) := by decide +kernel
theorem dX7_least_17 : decode cX7_least 17 = .ok (.ireturn, 1) := by decide +kernel
theorem dX7_least_18 : decode cX7_least 18 = .ok (.aload_n 0, 1) := by decide +kernel
theorem dX7_least_19 : decode cX7_least 19 = .ok (.getfield 24, 3) := by decide +kernel
theorem dX7_least_22 : decode cX7_least 22 = .ok (.iload_n 1, 1) := by decide +kernel
theorem dX7_least_23 : decode cX7_least 23 = .ok (.invokevirtual 155, 3) := by decide +kernel
theorem dX7_least_26 : decode cX7_least 26 = .ok (.aload_n 0, 1) := by decide +kernel
theorem dX7_least_27 : decode cX7_least 27 = .ok (.getfield 38, 3) := by decide +kernel
theorem dX7_least_30 : decode cX7_least 30 = .ok (.aload_n 0, 1) := by decide +kernel
theorem dX7_least_31 : decode cX7_least 31 = .ok (.getfield 24, 3) := by decide +kernel
theorem dX7_least_34 : decode cX7_least 34 = .ok (.invokevirtual 195, 3) := by decide +kernel
theorem dX7_least_37 : decode cX7_least 37 = .ok (.aload_n 0, 1) := by decide +kernel
theorem dX7_least_38 : decode cX7_least 38 = .ok (.getfield 38, 3) := by decide +kernel
theorem dX7_least_41 : decode cX7_least 41 = .ok (.iload_n 2, 1) := by decide +kernel
theorem dX7_least_42 : decode cX7_least 42 = .ok (.invokevirtual 198, 3) := by decide +kernel
theorem dX7_least_45 : decode cX7_least 45 = .ok (.istore 5, 2) := by decide +kernel
theorem dX7_least_47 : decode cX7_least 47 = .ok (.iload 5, 2) := by decide +kernel
theorem dX7_least_49 : decode cX7_least 49 = .ok (.bipush (-4), 2) := by decide +kernel
theorem dX7_least_51 : decode cX7_least 51 = .ok (.if_icmp .eq 7, 3) := by decide +kernel
theorem dX7_least_54 : decode cX7_least 54 = .ok (.iload_n 3, 1) := by decide +kernel
theorem dX7_least_55 : decode cX7_least 55 = .ok (.ifCond .ge 6, 3) := by decide +kernel
theorem dX7_least_58 : decode cX7_least 58 = .ok (.iload 5, 2) := by decide +kernel
theorem dX7_least_60 : decode cX7_least 60 = .ok (.ireturn, 1) := by decide +kernel
theorem dX7_least_61 : decode cX7_least 61 = .ok (.aload_n 0, 1) := by decide +kernel
theorem dX7_least_62 : decode cX7_least 62 = .ok (.getfield 38, 3) := by decide +kernel
theorem dX7_least_65 : decode cX7_least 65 = .ok (.iload_n 2, 1) := by decide +kernel
theorem dX7_least_66 : decode cX7_least 66 = .ok (.iload 5, 2) := by decide +kernel
theorem dX7_least_68 : decode cX7_least 68 = .ok (.iload_n 3, 1) := by decide +kernel
theorem dX7_least_69 : decode cX7_least 69 = .ok (.invokevirtual 201, 3) := by decide +kernel
theorem dX7_least_72 : decode cX7_least 72 = .ok (.ireturn, 1) := by decide +kernel
theorem dX7_starts_0 : decode cX7_starts 0 = .ok (.aload_n 0, 1) := by decide +kernel
theorem dX7_starts_1 : decode cX7_starts 1 = .ok (.getfield 10, 3) := by decide +kernel
theorem dX7_starts_4 : decode cX7_starts 4 = .ok (.iload_n 1, 1) := by decide +kernel
theorem dX7_starts_5 : decode cX7_starts 5 = .ok (.invokevirtual 168, 3) := by decide +kernel
theorem dX7_starts_8 : decode cX7_starts 8 = .ok (.ifCond .eq 12, 3) := by decide +kernel
theorem dX7_starts_11 : decode cX7_starts 11 = .ok (.iload_n 2, 1) := by decide +kernel
theorem dX7_starts_12 : decode cX7_starts 12 = .ok (.iconst 0, 1) := by decide +kernel
theorem dX7_starts_13 : decode cX7_starts 13 = .ok (.iconst 2, 1) := by decide +kernel
theorem dX7_starts_14 : decode cX7_starts 14 = .ok (.invokestatic 83, 3) := by decide +kernel
theorem dX7_starts_17 : decode cX7_starts 17 = .ok (.ifCond .ne 5, 3) := by decide +kernel
theorem dX7_starts_20 : decode cX7_starts 20 = .ok (.iconst (-1), 1) := by decide +kernel
theorem dX7_starts_21 : decode cX7_starts 21 = .ok (.ireturn, 1) := by decide +kernel
theorem dX7_starts_22 : decode cX7_starts 22 = .ok (.aload_n 0, 1) := by decide +kernel
theorem dX7_starts_23 : decode cX7_starts 23 = .ok (.getfield 10, 3) := by decide +kernel
theorem dX7_starts_26 : decode cX7_starts 26 = .ok (.getfield 133, 3) := by decide +kernel
theorem dX7_starts_29 : decode cX7_starts 29 = .ok (.ifCond .ne 6, 3) := by decide +kernel
theorem dX7_starts_32 : decode cX7_starts 32 = .ok (.bipush (-2), 2) := by decide +kernel
theorem dX7_starts_34 : decode cX7_starts 34 = .ok (.ireturn, 1) := by decide +kernel
theorem dX7_starts_35 : decode cX7_starts 35 = .ok (.aload_n 0, 1) := by decide +kernel
theorem dX7_starts_36 : decode cX7_starts 36 = .ok (.getfield 45, 3) := by decide +kernel
theorem dX7_starts_39 : decode cX7_starts 39 = .ok (.iload_n 1, 1) := by decide +kernel
theorem dX7_starts_40 : decode cX7_starts 40 = .ok (.invokevirtual 204, 3) := by decide +kernel
theorem dX7_starts_43 : decode cX7_starts 43 = .ok (.astore_n 3, 1) := by decide +kernel
theorem dX7_starts_44 : decode cX7_starts 44 = .ok (.aload_n 0, 1) := by decide +kernel
theorem dX7_starts_45 : decode cX7_starts 45 = .ok (.getfield 24, 3) := by decide +kernel
theorem dX7_starts_48 : decode cX7_starts 48 = .ok (.iload_n 1, 1) := by decide +kernel
theorem dX7_starts_49 : decode cX7_starts 49 = .ok (.invokevirtual 155, 3) := by decide +kernel
theorem dX7_starts_52 : decode cX7_starts 52 = .ok (.aload_n 0, 1) := by decide +kernel
theorem dX7_starts_53 : decode cX7_starts 53 = .ok (.getfield 38, 3) := by decide +kernel
theorem dX7_starts_56 : decode cX7_starts 56 = .ok (.aload_n 0, 1) := by decide +kernel
theorem dX7_starts_57 : decode cX7_starts 57 = .ok (.getfield 24, 3) := by decide +kernel
theorem dX7_starts_60 : decode cX7_starts 60 = .ok (.invokevirtual 195, 3) := by decide +kernel
theorem dX7_starts_63 : decode cX7_starts 63 = .ok (.aload_n 0, 1) := by decide +kernel
theorem dX7_starts_64 : decode cX7_starts 64 = .ok (.getfield 38, 3) := by decide +kernel
theorem dX7_starts_67 : decode cX7_starts 67 = .ok (.aload_n 3, 1) := by decide +kernel
theorem dX7_starts_68 : decode cX7_starts 68 = .ok (.invokevirtual 208, 3) := by decide +kernel
theorem dX7_starts_71 : decode cX7_starts 71 = .ok (.iload_n 2, 1) := by decide +kernel
theorem dX7_starts_72 : decode cX7_starts 72 = .ok (.lookupswitch 39 #[(0, 28), (1, 33)], 28) := by decide +kernel
theorem dX7_starts_100 : decode cX7_starts 100 = .ok (.aload_n 3, 1) := by decide +kernel
theorem dX7_starts_101 : decode cX7_starts 101 = .ok (.invokestatic 212, 3) := by decide +kernel
theorem dX7_starts_104 : decode cX7_starts 104 = .ok (.ireturn, 1) := by decide +kernel
theorem dX7_starts_105 : decode cX7_starts 105 = .ok (.aload_n 3, 1) := by decide +kernel
theorem dX7_starts_106 : decode cX7_starts 106 = .ok (.iconst 0, 1) := by decide +kernel
theorem dX7_starts_107 : decode cX7_starts 107 = .ok (.invokestatic 216, 3) := by decide +kernel
theorem dX7_starts_110 : decode cX7_starts 110 = .ok (.ireturn, 1) := by decide +kernel
theorem dX7_starts_111 : decode cX7_starts 111 = .ok (.aload_n 3, 1) := by decide +kernel
theorem dX7_starts_112 : decode cX7_starts 112 = .ok (.invokestatic 220, 3) := by decide +kernel
theorem dX7_starts_115 : decode cX7_starts 115 = .ok (.ireturn, 1) := by decide +kernel
theorem dX7_deepest_0 : decode cX7_deepest 0 = .ok (.aload_n 0, 1) := by decide +kernel
theorem dX7_deepest_1 : decode cX7_deepest 1 = .ok (.iload_n 1, 1) := by decide +kernel
theorem dX7_deepest_2 : decode cX7_deepest 2 = .ok (.iload_n 2, 1) := by decide +kernel
theorem dX7_deepest_3 : decode cX7_deepest 3 = .ok (.invokevirtual 174, 3) := by decide +kernel
theorem dX7_deepest_6 : decode cX7_deepest 6 = .ok (.ifCond .ne 5, 3) := by decide +kernel
theorem dX7_deepest_9 : decode cX7_deepest 9 = .ok (.iconst (-1), 1) := by decide +kernel
theorem dX7_deepest_10 : decode cX7_deepest 10 = .ok (.ireturn, 1) := by decide +kernel
theorem dX7_deepest_11 : decode cX7_deepest 11 = .ok (.aload_n 0, 1) := by decide +kernel
theorem dX7_deepest_12 : decode cX7_deepest 12 = .ok (.getfield 10, 3) := by decide +kernel
theorem dX7_deepest_15 : decode cX7_deepest 15 = .ok (.getfield 133, 3) := by decide +kernel
theorem dX7_deepest_18 : decode cX7_deepest 18 = .ok (.ifCond .ne 6, 3) := by decide +kernel
theorem dX7_deepest_21 : decode cX7_deepest 21 = .ok (.bipush (-2), 2) := by decide +kernel
theorem dX7_deepest_23 : decode cX7_deepest 23 = .ok (.ireturn, 1) := by decide +kernel
theorem dX7_deepest_24 : decode cX7_deepest 24 = .ok (.aload_n 0, 1) := by decide +kernel
theorem dX7_deepest_25 : decode cX7_deepest 25 = .ok (.getfield 24, 3) := by decide +kernel
theorem dX7_deepest_28 : decode cX7_deepest 28 = .ok (.iload_n 1, 1) := by decide +kernel
theorem dX7_deepest_29 : decode cX7_deepest 29 = .ok (.invokevirtual 155, 3) := by decide +kernel
theorem dX7_deepest_32 : decode cX7_deepest 32 = .ok (.aload_n 0, 1) := by decide +kernel
theorem dX7_deepest_33 : decode cX7_deepest 33 = .ok (.getfield 38, 3) := by decide +kernel
theorem dX7_deepest_36 : decode cX7_deepest 36 = .ok (.invokevirtual 223, 3) := by decide +kernel
theorem dX7_deepest_39 : decode cX7_deepest 39 = .ok (.bipush 19, 2) := by decide +kernel
theorem dX7_deepest_41 : decode cX7_deepest 41 = .ok (.istore_n 3, 1) := by decide +kernel
theorem dX7_deepest_42 : decode cX7_deepest 42 = .ok (.sipush 128, 3) := by decide +kernel
theorem dX7_deepest_45 : decode cX7_deepest 45 = .ok (.istore 4, 2) := by decide +kernel
theorem dX7_deepest_47 : decode cX7_deepest 47 = .ok (.iload 4, 2) := by decide +kernel
theorem dX7_deepest_49 : decode cX7_deepest 49 = .ok (.iconst 1, 1) := by decide +kernel
theorem dX7_deepest_50 : decode cX7_deepest 50 = .ok (.if_icmp .lt 62, 3) := by decide +kernel
theorem dX7_deepest_53 : decode cX7_deepest 53 = .ok (.iload_n 3, 1) := by decide +kernel
theorem dX7_deepest_54 : decode cX7_deepest 54 = .ok (.iload 4, 2) := by decide +kernel
theorem dX7_deepest_56 : decode cX7_deepest 56 = .ok (.iadd, 1) := by decide +kernel
theorem dX7_deepest_57 : decode cX7_deepest 57 = .ok (.sipush 200, 3) := by decide +kernel
theorem dX7_deepest_60 : decode cX7_deepest 60 = .ok (.if_icmp .gt 43, 3) := by decide +kernel
theorem dX7_deepest_63 : decode cX7_deepest 63 = .ok (.aload_n 0, 1) := by decide +kernel
theorem dX7_deepest_64 : decode cX7_deepest 64 = .ok (.getfield 24, 3) := by decide +kernel
theorem dX7_deepest_67 : decode cX7_deepest 67 = .ok (.iload_n 3, 1) := by decide +kernel
theorem dX7_deepest_68 : decode cX7_deepest 68 = .ok (.iload 4, 2) := by decide +kernel
theorem dX7_deepest_70 : decode cX7_deepest 70 = .ok (.iadd, 1) := by decide +kernel
theorem dX7_deepest_71 : decode cX7_deepest 71 = .ok (.invokevirtual 226, 3) := by decide +kernel
theorem dX7_deepest_74 : decode cX7_deepest 74 = .ok (.aload_n 0, 1) := by decide +kernel
theorem dX7_deepest_75 : decode cX7_deepest 75 = .ok (.getfield 38, 3) := by decide +kernel
theorem dX7_deepest_78 : decode cX7_deepest 78 = .ok (.aload_n 0, 1) := by decide +kernel
theorem dX7_deepest_79 : decode cX7_deepest 79 = .ok (.getfield 24, 3) := by decide +kernel
theorem dX7_deepest_82 : decode cX7_deepest 82 = .ok (.invokevirtual 229, 3) := by decide +kernel
theorem dX7_deepest_85 : decode cX7_deepest 85 = .ok (.aload_n 0, 1) := by decide +kernel
theorem dX7_deepest_86 : decode cX7_deepest 86 = .ok (.getfield 38, 3) := by decide +kernel
theorem dX7_deepest_89 : decode cX7_deepest 89 = .ok (.iload_n 2, 1) := by decide +kernel
theorem dX7_deepest_90 : decode cX7_deepest 90 = .ok (.invokevirtual 198, 3) := by decide +kernel
theorem dX7_deepest_93 : decode cX7_deepest 93 = .ok (.bipush (-4), 2) := by decide +kernel
theorem dX7_deepest_95 : decode cX7_deepest 95 = .ok (.if_icmp .eq 8, 3) := by decide +kernel
theorem dX7_deepest_98 : decode cX7_deepest 98 = .ok (.iload_n 3, 1) := by decide +kernel
theorem dX7_deepest_99 : decode cX7_deepest 99 = .ok (.iload 4, 2) := by decide +kernel
theorem dX7_deepest_101 : decode cX7_deepest 101 = .ok (.iadd, 1) := by decide +kernel
theorem dX7_deepest_102 : decode cX7_deepest 102 = .ok (.istore_n 3, 1) := by decide +kernel
theorem dX7_deepest_103 : decode cX7_deepest 103 = .ok (.iload 4, 2) := by decide +kernel
theorem dX7_deepest_105 : decode cX7_deepest 105 = .ok (.iconst 2, 1) := by decide +kernel
theorem dX7_deepest_106 : decode cX7_deepest 106 = .ok (.idiv, 1) := by decide +kernel
theorem dX7_deepest_107 : decode cX7_deepest 107 = .ok (.istore 4, 2) := by decide +kernel
theorem dX7_deepest_109 : decode cX7_deepest 109 = .ok (.goto (-62), 3) := by decide +kernel
theorem dX7_deepest_112 : decode cX7_deepest 112 = .ok (.iload_n 3, 1) := by decide +kernel
theorem dX7_deepest_113 : decode cX7_deepest 113 = .ok (.bipush 20, 2) := by decide +kernel
theorem dX7_deepest_115 : decode cX7_deepest 115 = .ok (.if_icmp .ge 8, 3) := by decide +kernel
theorem dX7_deepest_118 : decode cX7_deepest 118 = .ok (.bipush (-4), 2) := by decide +kernel
theorem dX7_deepest_120 : decode cX7_deepest 120 = .ok (.goto 4, 3) := by decide +kernel
theorem dX7_deepest_123 : decode cX7_deepest 123 = .ok (.iload_n 3, 1) := by decide +kernel
theorem dX7_deepest_124 : decode cX7_deepest 124 = .ok (.ireturn, 1) := by decide +kernel
theorem dX7_bank_0 : decode cX7_bank 0 = .ok (.aload_n 0, 1) := by decide +kernel
theorem dX7_bank_1 : decode cX7_bank 1 = .ok (.getfield 10, 3) := by decide +kernel
theorem dX7_bank_4 : decode cX7_bank 4 = .ok (.iload_n 1, 1) := by decide +kernel
theorem dX7_bank_5 : decode cX7_bank 5 = .ok (.invokevirtual 168, 3) := by decide +kernel
theorem dX7_bank_8 : decode cX7_bank 8 = .ok (.ifCond .eq 20, 3) := by decide +kernel
theorem dX7_bank_11 : decode cX7_bank 11 = .ok (.iload_n 2, 1) := by decide +kernel
theorem dX7_bank_12 : decode cX7_bank 12 = .ok (.invokestatic 106, 3) := by decide +kernel
theorem dX7_bank_15 : decode cX7_bank 15 = .ok (.ifCond .eq 13, 3) := by decide +kernel
theorem dX7_bank_18 : decode cX7_bank 18 = .ok (.iload_n 3, 1) := by decide +kernel
theorem dX7_bank_19 : decode cX7_bank 19 = .ok (.iconst 1, 1) := by decide +kernel
theorem dX7_bank_20 : decode cX7_bank 20 = .ok (.bipush 99, 2) := by decide +kernel
theorem dX7_bank_22 : decode cX7_bank 22 = .ok (.invokestatic 83, 3) := by decide +kernel
theorem dX7_bank_25 : decode cX7_bank 25 = .ok (.ifCond .ne 5, 3) := by decide +kernel
theorem dX7_bank_28 : decode cX7_bank 28 = .ok (.iconst (-1), 1) := by decide +kernel
theorem dX7_bank_29 : decode cX7_bank 29 = .ok (.ireturn, 1) := by decide +kernel
theorem dX7_bank_30 : decode cX7_bank 30 = .ok (.aload_n 0, 1) := by decide +kernel
theorem dX7_bank_31 : decode cX7_bank 31 = .ok (.iload_n 1, 1) := by decide +kernel
theorem dX7_bank_32 : decode cX7_bank 32 = .ok (.iload_n 2, 1) := by decide +kernel
theorem dX7_bank_33 : decode cX7_bank 33 = .ok (.iload_n 3, 1) := by decide +kernel
theorem dX7_bank_34 : decode cX7_bank 34 = .ok (.invokevirtual 232, 3) := by decide +kernel
theorem dX7_bank_37 : decode cX7_bank 37 = .ok (.ifCond .eq 7, 3) := by decide +kernel
theorem dX7_bank_40 : decode cX7_bank 40 = .ok (.iconst 1, 1) := by decide +kernel
theorem dX7_bank_41 : decode cX7_bank 41 = .ok (.goto 4, 3) := by decide +kernel
theorem dX7_bank_44 : decode cX7_bank 44 = .ok (.iconst 0, 1) := by decide +kernel
theorem dX7_bank_45 : decode cX7_bank 45 = .ok (.ireturn, 1) := by decide +kernel
theorem dX7_nearest_0 : decode cX7_nearest 0 = .ok (.aload_n 0, 1) := by decide +kernel
theorem dX7_nearest_1 : decode cX7_nearest 1 = .ok (.getfield 10, 3) := by decide +kernel
theorem dX7_nearest_4 : decode cX7_nearest 4 = .ok (.iload_n 1, 1) := by decide +kernel
theorem dX7_nearest_5 : decode cX7_nearest 5 = .ok (.invokevirtual 168, 3) := by decide +kernel
theorem dX7_nearest_8 : decode cX7_nearest 8 = .ok (.ifCond .eq 10, 3) := by decide +kernel
theorem dX7_nearest_11 : decode cX7_nearest 11 = .ok (.iload_n 2, 1) := by decide +kernel
theorem dX7_nearest_12 : decode cX7_nearest 12 = .ok (.invokestatic 106, 3) := by decide +kernel
theorem dX7_nearest_15 : decode cX7_nearest 15 = .ok (.ifCond .ne 5, 3) := by decide +kernel
theorem dX7_nearest_18 : decode cX7_nearest 18 = .ok (.iconst (-1), 1) := by decide +kernel
theorem dX7_nearest_19 : decode cX7_nearest 19 = .ok (.ireturn, 1) := by decide +kernel
theorem dX7_nearest_20 : decode cX7_nearest 20 = .ok (.iconst 1, 1) := by decide +kernel
theorem dX7_nearest_21 : decode cX7_nearest 21 = .ok (.istore_n 3, 1) := by decide +kernel
theorem dX7_nearest_22 : decode cX7_nearest 22 = .ok (.iload_n 3, 1) := by decide +kernel
theorem dX7_nearest_23 : decode cX7_nearest 23 = .ok (.bipush 99, 2) := by decide +kernel
theorem dX7_nearest_25 : decode cX7_nearest 25 = .ok (.if_icmp .gt 21, 3) := by decide +kernel
theorem dX7_nearest_28 : decode cX7_nearest 28 = .ok (.aload_n 0, 1) := by decide +kernel
theorem dX7_nearest_29 : decode cX7_nearest 29 = .ok (.iload_n 1, 1) := by decide +kernel
theorem dX7_nearest_30 : decode cX7_nearest 30 = .ok (.iload_n 2, 1) := by decide +kernel
theorem dX7_nearest_31 : decode cX7_nearest 31 = .ok (.iload_n 3, 1) := by decide +kernel
theorem dX7_nearest_32 : decode cX7_nearest 32 = .ok (.invokevirtual 232, 3) := by decide +kernel
theorem dX7_nearest_35 : decode cX7_nearest 35 = .ok (.ifCond .eq 5, 3) := by decide +kernel
theorem dX7_nearest_38 : decode cX7_nearest 38 = .ok (.iload_n 3, 1) := by decide +kernel
theorem dX7_nearest_39 : decode cX7_nearest 39 = .ok (.ireturn, 1) := by decide +kernel
theorem dX7_nearest_40 : decode cX7_nearest 40 = .ok (.iinc 3 1, 3) := by decide +kernel
theorem dX7_nearest_43 : decode cX7_nearest 43 = .ok (.goto (-21), 3) := by decide +kernel
theorem dX7_nearest_46 : decode cX7_nearest 46 = .ok (.bipush (-4), 2) := by decide +kernel
theorem dX7_nearest_48 : decode cX7_nearest 48 = .ok (.ireturn, 1) := by decide +kernel
theorem dX7_steered_0 : decode cX7_steered 0 = .ok (.iload_n 1, 1) := by decide +kernel
theorem dX7_steered_1 : decode cX7_steered 1 = .ok (.iconst 0, 1) := by decide +kernel
theorem dX7_steered_2 : decode cX7_steered 2 = .ok (.bipush 9, 2) := by decide +kernel
theorem dX7_steered_4 : decode cX7_steered 4 = .ok (.invokestatic 83, 3) := by decide +kernel
theorem dX7_steered_7 : decode cX7_steered 7 = .ok (.ifCond .eq 12, 3) := by decide +kernel
theorem dX7_steered_10 : decode cX7_steered 10 = .ok (.iload_n 2, 1) := by decide +kernel
theorem dX7_steered_11 : decode cX7_steered 11 = .ok (.iconst 0, 1) := by decide +kernel
theorem dX7_steered_12 : decode cX7_steered 12 = .ok (.iconst 5, 1) := by decide +kernel
theorem dX7_steered_13 : decode cX7_steered 13 = .ok (.invokestatic 83, 3) := by decide +kernel
theorem dX7_steered_16 : decode cX7_steered 16 = .ok (.ifCond .ne 5, 3) := by decide +kernel
theorem dX7_steered_19 : decode cX7_steered 19 = .ok (.iconst (-1), 1) := by decide +kernel
theorem dX7_steered_20 : decode cX7_steered 20 = .ok (.ireturn, 1) := by decide +kernel
theorem dX7_steered_21 : decode cX7_steered 21 = .ok (.iconst 0, 1) := by decide +kernel
theorem dX7_steered_22 : decode cX7_steered 22 = .ok (.istore_n 3, 1) := by decide +kernel
theorem dX7_steered_23 : decode cX7_steered 23 = .ok (.aload_n 0, 1) := by decide +kernel
theorem dX7_steered_24 : decode cX7_steered 24 = .ok (.getfield 63, 3) := by decide +kernel
theorem dX7_steered_27 : decode cX7_steered 27 = .ok (.iconst 0, 1) := by decide +kernel
theorem dX7_steered_28 : decode cX7_steered 28 = .ok (.bipush 8, 2) := by decide +kernel
theorem dX7_steered_30 : decode cX7_steered 30 = .ok (.iastore, 1) := by decide +kernel
theorem dX7_steered_31 : decode cX7_steered 31 = .ok (.iconst 1, 1) := by decide +kernel
theorem dX7_steered_32 : decode cX7_steered 32 = .ok (.istore 4, 2) := by decide +kernel
theorem dX7_steered_34 : decode cX7_steered 34 = .ok (.iload 4, 2) := by decide +kernel
theorem dX7_steered_36 : decode cX7_steered 36 = .ok (.bipush 60, 2) := by decide +kernel
theorem dX7_steered_38 : decode cX7_steered 38 = .ok (.if_icmp .gt 85, 3) := by decide +kernel
theorem dX7_steered_41 : decode cX7_steered 41 = .ok (.aload_n 0, 1) := by decide +kernel
theorem dX7_steered_42 : decode cX7_steered 42 = .ok (.getfield 63, 3) := by decide +kernel
theorem dX7_steered_45 : decode cX7_steered 45 = .ok (.iconst 0, 1) := by decide +kernel
theorem dX7_steered_46 : decode cX7_steered 46 = .ok (.iload 4, 2) := by decide +kernel
theorem dX7_steered_48 : decode cX7_steered 48 = .ok (.iload_n 2, 1) := by decide +kernel
theorem dX7_steered_49 : decode cX7_steered 49 = .ok (.isub, 1) := by decide +kernel
theorem dX7_steered_50 : decode cX7_steered 50 = .ok (.iconst 1, 1) := by decide +kernel
theorem dX7_steered_51 : decode cX7_steered 51 = .ok (.isub, 1) := by decide +kernel
theorem dX7_steered_52 : decode cX7_steered 52 = .ok (.invokestatic 235, 3) := by decide +kernel
theorem dX7_steered_55 : decode cX7_steered 55 = .ok (.iaload, 1) := by decide +kernel
theorem dX7_steered_56 : decode cX7_steered 56 = .ok (.istore 5, 2) := by decide +kernel
theorem dX7_steered_58 : decode cX7_steered 58 = .ok (.iload_n 3, 1) := by decide +kernel
theorem dX7_steered_59 : decode cX7_steered 59 = .ok (.aload_n 0, 1) := by decide +kernel
theorem dX7_steered_60 : decode cX7_steered 60 = .ok (.getfield 63, 3) := by decide +kernel
theorem dX7_steered_63 : decode cX7_steered 63 = .ok (.iload 4, 2) := by decide +kernel
theorem dX7_steered_65 : decode cX7_steered 65 = .ok (.iconst 1, 1) := by decide +kernel
theorem dX7_steered_66 : decode cX7_steered 66 = .ok (.isub, 1) := by decide +kernel
theorem dX7_steered_67 : decode cX7_steered 67 = .ok (.iaload, 1) := by decide +kernel
theorem dX7_steered_68 : decode cX7_steered 68 = .ok (.iconst 0, 1) := by decide +kernel
theorem dX7_steered_69 : decode cX7_steered 69 = .ok (.invokestatic 240, 3) := by decide +kernel
theorem dX7_steered_72 : decode cX7_steered 72 = .ok (.iload_n 1, 1) := by decide +kernel
theorem dX7_steered_73 : decode cX7_steered 73 = .ok (.iload 5, 2) := by decide +kernel
theorem dX7_steered_75 : decode cX7_steered 75 = .ok (.imul, 1) := by decide +kernel
theorem dX7_steered_76 : decode cX7_steered 76 = .ok (.iconst 4, 1) := by decide +kernel
theorem dX7_steered_77 : decode cX7_steered 77 = .ok (.idiv, 1) := by decide +kernel
theorem dX7_steered_78 : decode cX7_steered 78 = .ok (.isub, 1) := by decide +kernel
theorem dX7_steered_79 : decode cX7_steered 79 = .ok (.iadd, 1) := by decide +kernel
theorem dX7_steered_80 : decode cX7_steered 80 = .ok (.istore_n 3, 1) := by decide +kernel
theorem dX7_steered_81 : decode cX7_steered 81 = .ok (.aload_n 0, 1) := by decide +kernel
theorem dX7_steered_82 : decode cX7_steered 82 = .ok (.getfield 63, 3) := by decide +kernel
theorem dX7_steered_85 : decode cX7_steered 85 = .ok (.iload 4, 2) := by decide +kernel
theorem dX7_steered_87 : decode cX7_steered 87 = .ok (.aload_n 0, 1) := by decide +kernel
theorem dX7_steered_88 : decode cX7_steered 88 = .ok (.getfield 63, 3) := by decide +kernel
theorem dX7_steered_91 : decode cX7_steered 91 = .ok (.iload 4, 2) := by decide +kernel
theorem dX7_steered_93 : decode cX7_steered 93 = .ok (.iconst 1, 1) := by decide +kernel
theorem dX7_steered_94 : decode cX7_steered 94 = .ok (.isub, 1) := by decide +kernel
theorem dX7_steered_95 : decode cX7_steered 95 = .ok (.iaload, 1) := by decide +kernel
theorem dX7_steered_96 : decode cX7_steered 96 = .ok (.iload_n 3, 1) := by decide +kernel
theorem dX7_steered_97 : decode cX7_steered 97 = .ok (.iadd, 1) := by decide +kernel
theorem dX7_steered_98 : decode cX7_steered 98 = .ok (.iastore, 1) := by decide +kernel
theorem dX7_steered_99 : decode cX7_steered 99 = .ok (.aload_n 0, 1) := by decide +kernel
theorem dX7_steered_100 : decode cX7_steered 100 = .ok (.getfield 63, 3) := by decide +kernel
theorem dX7_steered_103 : decode cX7_steered 103 = .ok (.iload 4, 2) := by decide +kernel
theorem dX7_steered_105 : decode cX7_steered 105 = .ok (.iaload, 1) := by decide +kernel
theorem dX7_steered_106 : decode cX7_steered 106 = .ok (.invokestatic 245, 3) := by decide +kernel
theorem dX7_steered_109 : decode cX7_steered 109 = .ok (.bipush 40, 2) := by decide +kernel
theorem dX7_steered_111 : decode cX7_steered 111 = .ok (.if_icmp .lt 6, 3) := by decide +kernel
theorem dX7_steered_114 : decode cX7_steered 114 = .ok (.iload 4, 2) := by decide +kernel
theorem dX7_steered_116 : decode cX7_steered 116 = .ok (.ireturn, 1) := by decide +kernel
theorem dX7_steered_117 : decode cX7_steered 117 = .ok (.iinc 4 1, 3) := by decide +kernel
theorem dX7_steered_120 : decode cX7_steered 120 = .ok (.goto (-86), 3) := by decide +kernel
theorem dX7_steered_123 : decode cX7_steered 123 = .ok (.iconst 0, 1) := by decide +kernel
theorem dX7_steered_124 : decode cX7_steered 124 = .ok (.ireturn, 1) := by decide +kernel
theorem dX7_may_0 : decode cX7_may 0 = .ok (.aload_n 0, 1) := by decide +kernel
theorem dX7_may_1 : decode cX7_may 1 = .ok (.iload_n 1, 1) := by decide +kernel
theorem dX7_may_2 : decode cX7_may 2 = .ok (.iload_n 2, 1) := by decide +kernel
theorem dX7_may_3 : decode cX7_may 3 = .ok (.invokevirtual 248, 3) := by decide +kernel
theorem dX7_may_6 : decode cX7_may 6 = .ok (.ifCond .eq 30, 3) := by decide +kernel
theorem dX7_may_9 : decode cX7_may 9 = .ok (.aload_n 0, 1) := by decide +kernel
theorem dX7_may_10 : decode cX7_may 10 = .ok (.getfield 10, 3) := by decide +kernel
theorem dX7_may_13 : decode cX7_may 13 = .ok (.iload_n 3, 1) := by decide +kernel
theorem dX7_may_14 : decode cX7_may 14 = .ok (.invokevirtual 79, 3) := by decide +kernel
theorem dX7_may_17 : decode cX7_may 17 = .ok (.ifCond .eq 19, 3) := by decide +kernel
theorem dX7_may_20 : decode cX7_may 20 = .ok (.iload 4, 2) := by decide +kernel
theorem dX7_may_22 : decode cX7_may 22 = .ok (.invokestatic 106, 3) := by decide +kernel
theorem dX7_may_25 : decode cX7_may 25 = .ok (.ifCond .eq 11, 3) := by decide +kernel
theorem dX7_may_28 : decode cX7_may 28 = .ok (.iload 5, 2) := by decide +kernel
theorem dX7_may_30 : decode cX7_may 30 = .ok (.invokestatic 106, 3) := by decide +kernel
theorem dX7_may_33 : decode cX7_may 33 = .ok (.ifCond .ne 5, 3) := by decide +kernel
theorem dX7_may_36 : decode cX7_may 36 = .ok (.iconst (-1), 1) := by decide +kernel
theorem dX7_may_37 : decode cX7_may 37 = .ok (.ireturn, 1) := by decide +kernel
theorem dX7_may_38 : decode cX7_may 38 = .ok (.aload_n 0, 1) := by decide +kernel
theorem dX7_may_39 : decode cX7_may 39 = .ok (.getfield 10, 3) := by decide +kernel
theorem dX7_may_42 : decode cX7_may 42 = .ok (.iload_n 1, 1) := by decide +kernel
theorem dX7_may_43 : decode cX7_may 43 = .ok (.iconst 1, 1) := by decide +kernel
theorem dX7_may_44 : decode cX7_may 44 = .ok (.invokevirtual 251, 3) := by decide +kernel
theorem dX7_may_47 : decode cX7_may 47 = .ok (.aload_n 0, 1) := by decide +kernel
theorem dX7_may_48 : decode cX7_may 48 = .ok (.getfield 10, 3) := by decide +kernel
theorem dX7_may_51 : decode cX7_may 51 = .ok (.iload_n 2, 1) := by decide +kernel
theorem dX7_may_52 : decode cX7_may 52 = .ok (.iconst 1, 1) := by decide +kernel
theorem dX7_may_53 : decode cX7_may 53 = .ok (.invokevirtual 251, 3) := by decide +kernel
theorem dX7_may_56 : decode cX7_may 56 = .ok (.iadd, 1) := by decide +kernel
theorem dX7_may_57 : decode cX7_may 57 = .ok (.iload 4, 2) := by decide +kernel
theorem dX7_may_59 : decode cX7_may 59 = .ok (.iload 5, 2) := by decide +kernel
theorem dX7_may_61 : decode cX7_may 61 = .ok (.iadd, 1) := by decide +kernel
theorem dX7_may_62 : decode cX7_may 62 = .ok (.iload 4, 2) := by decide +kernel
theorem dX7_may_64 : decode cX7_may 64 = .ok (.iload 5, 2) := by decide +kernel
theorem dX7_may_66 : decode cX7_may 66 = .ok (.iadd, 1) := by decide +kernel
theorem dX7_may_67 : decode cX7_may 67 = .ok (.imul, 1) := by decide +kernel
theorem dX7_may_68 : decode cX7_may 68 = .ok (.bipush 20, 2) := by decide +kernel
theorem dX7_may_70 : decode cX7_may 70 = .ok (.idiv, 1) := by decide +kernel
theorem dX7_may_71 : decode cX7_may 71 = .ok (.iadd, 1) := by decide +kernel
theorem dX7_may_72 : decode cX7_may 72 = .ok (.istore 6, 2) := by decide +kernel
theorem dX7_may_74 : decode cX7_may 74 = .ok (.aload_n 0, 1) := by decide +kernel
theorem dX7_may_75 : decode cX7_may 75 = .ok (.getfield 10, 3) := by decide +kernel
theorem dX7_may_78 : decode cX7_may 78 = .ok (.iload_n 3, 1) := by decide +kernel
theorem dX7_may_79 : decode cX7_may 79 = .ok (.iconst 1, 1) := by decide +kernel
theorem dX7_may_80 : decode cX7_may 80 = .ok (.invokevirtual 91, 3) := by decide +kernel
theorem dX7_may_83 : decode cX7_may 83 = .ok (.iload 6, 2) := by decide +kernel
theorem dX7_may_85 : decode cX7_may 85 = .ok (.if_icmp .lt 7, 3) := by decide +kernel
theorem dX7_may_88 : decode cX7_may 88 = .ok (.iconst 1, 1) := by decide +kernel
theorem dX7_may_89 : decode cX7_may 89 = .ok (.goto 4, 3) := by decide +kernel
theorem dX7_may_92 : decode cX7_may 92 = .ok (.iconst 0, 1) := by decide +kernel
theorem dX7_may_93 : decode cX7_may 93 = .ok (.ireturn, 1) := by decide +kernel
theorem dX7_meet_0 : decode cX7_meet 0 = .ok (.aload_n 0, 1) := by decide +kernel
theorem dX7_meet_1 : decode cX7_meet 1 = .ok (.iload_n 1, 1) := by decide +kernel
theorem dX7_meet_2 : decode cX7_meet 2 = .ok (.iload 4, 2) := by decide +kernel
theorem dX7_meet_4 : decode cX7_meet 4 = .ok (.invokevirtual 248, 3) := by decide +kernel
theorem dX7_meet_7 : decode cX7_meet 7 = .ok (.ifCond .eq 33, 3) := by decide +kernel
theorem dX7_meet_10 : decode cX7_meet 10 = .ok (.iload_n 2, 1) := by decide +kernel
theorem dX7_meet_11 : decode cX7_meet 11 = .ok (.invokestatic 254, 3) := by decide +kernel
theorem dX7_meet_14 : decode cX7_meet 14 = .ok (.ifCond .eq 26, 3) := by decide +kernel
theorem dX7_meet_17 : decode cX7_meet 17 = .ok (.iload_n 3, 1) := by decide +kernel
theorem dX7_meet_18 : decode cX7_meet 18 = .ok (.invokestatic 106, 3) := by decide +kernel
theorem dX7_meet_21 : decode cX7_meet 21 = .ok (.ifCond .eq 19, 3) := by decide +kernel
theorem dX7_meet_24 : decode cX7_meet 24 = .ok (.iload 5, 2) := by decide +kernel
theorem dX7_meet_26 : decode cX7_meet 26 = .ok (.invokestatic 254, 3) := by decide +kernel
theorem dX7_meet_29 : decode cX7_meet 29 = .ok (.ifCond .eq 11, 3) := by decide +kernel
theorem dX7_meet_32 : decode cX7_meet 32 = .ok (.iload 6, 2) := by decide +kernel
theorem dX7_meet_34 : decode cX7_meet 34 = .ok (.invokestatic 106, 3) := by decide +kernel
theorem dX7_meet_37 : decode cX7_meet 37 = .ok (.ifCond .ne 5, 3) := by decide +kernel
theorem dX7_meet_40 : decode cX7_meet 40 = .ok (.iconst (-1), 1) := by decide +kernel
theorem dX7_meet_41 : decode cX7_meet 41 = .ok (.ireturn, 1) := by decide +kernel
theorem dX7_meet_42 : decode cX7_meet 42 = .ok (.aload_n 0, 1) := by decide +kernel
theorem dX7_meet_43 : decode cX7_meet 43 = .ok (.getfield 10, 3) := by decide +kernel
theorem dX7_meet_46 : decode cX7_meet 46 = .ok (.getfield 133, 3) := by decide +kernel
theorem dX7_meet_49 : decode cX7_meet 49 = .ok (.ifCond .ne 6, 3) := by decide +kernel
theorem dX7_meet_52 : decode cX7_meet 52 = .ok (.bipush (-2), 2) := by decide +kernel
theorem dX7_meet_54 : decode cX7_meet 54 = .ok (.ireturn, 1) := by decide +kernel
theorem dX7_meet_55 : decode cX7_meet 55 = .ok (.iload_n 3, 1) := by decide +kernel
theorem dX7_meet_56 : decode cX7_meet 56 = .ok (.invokestatic 257, 3) := by decide +kernel
theorem dX7_meet_59 : decode cX7_meet 59 = .ok (.istore 7, 2) := by decide +kernel
theorem dX7_meet_61 : decode cX7_meet 61 = .ok (.iload 6, 2) := by decide +kernel
theorem dX7_meet_63 : decode cX7_meet 63 = .ok (.invokestatic 257, 3) := by decide +kernel
theorem dX7_meet_66 : decode cX7_meet 66 = .ok (.istore 8, 2) := by decide +kernel
theorem dX7_meet_68 : decode cX7_meet 68 = .ok (.iconst 0, 1) := by decide +kernel
theorem dX7_meet_69 : decode cX7_meet 69 = .ok (.istore 9, 2) := by decide +kernel
theorem dX7_meet_71 : decode cX7_meet 71 = .ok (.iload 9, 2) := by decide +kernel
theorem dX7_meet_73 : decode cX7_meet 73 = .ok (.aload_n 0, 1) := by decide +kernel
theorem dX7_meet_74 : decode cX7_meet 74 = .ok (.getfield 10, 3) := by decide +kernel
theorem dX7_meet_77 : decode cX7_meet 77 = .ok (.getfield 133, 3) := by decide +kernel
theorem dX7_meet_80 : decode cX7_meet 80 = .ok (.if_icmp .ge 61, 3) := by decide +kernel
theorem dX7_meet_83 : decode cX7_meet 83 = .ok (.iload_n 2, 1) := by decide +kernel
theorem dX7_meet_84 : decode cX7_meet 84 = .ok (.iload 9, 2) := by decide +kernel
theorem dX7_meet_86 : decode cX7_meet 86 = .ok (.iload 7, 2) := by decide +kernel
theorem dX7_meet_88 : decode cX7_meet 88 = .ok (.imul, 1) := by decide +kernel
theorem dX7_meet_89 : decode cX7_meet 89 = .ok (.iadd, 1) := by decide +kernel
theorem dX7_meet_90 : decode cX7_meet 90 = .ok (.istore 10, 2) := by decide +kernel
theorem dX7_meet_92 : decode cX7_meet 92 = .ok (.iload 5, 2) := by decide +kernel
theorem dX7_meet_94 : decode cX7_meet 94 = .ok (.aload_n 0, 1) := by decide +kernel
theorem dX7_meet_95 : decode cX7_meet 95 = .ok (.getfield 10, 3) := by decide +kernel
theorem dX7_meet_98 : decode cX7_meet 98 = .ok (.getfield 133, 3) := by decide +kernel
theorem dX7_meet_101 : decode cX7_meet 101 = .ok (.iconst 1, 1) := by decide +kernel
theorem dX7_meet_102 : decode cX7_meet 102 = .ok (.isub, 1) := by decide +kernel
theorem dX7_meet_103 : decode cX7_meet 103 = .ok (.iload 9, 2) := by decide +kernel
theorem dX7_meet_105 : decode cX7_meet 105 = .ok (.isub, 1) := by decide +kernel
theorem dX7_meet_106 : decode cX7_meet 106 = .ok (.iload 8, 2) := by decide +kernel
theorem dX7_meet_108 : decode cX7_meet 108 = .ok (.imul, 1) := by decide +kernel
theorem dX7_meet_109 : decode cX7_meet 109 = .ok (.iadd, 1) := by decide +kernel
theorem dX7_meet_110 : decode cX7_meet 110 = .ok (.istore 11, 2) := by decide +kernel
theorem dX7_meet_112 : decode cX7_meet 112 = .ok (.iload 10, 2) := by decide +kernel
theorem dX7_meet_114 : decode cX7_meet 114 = .ok (.iload 11, 2) := by decide +kernel
theorem dX7_meet_116 : decode cX7_meet 116 = .ok (.iload 8, 2) := by decide +kernel
theorem dX7_meet_118 : decode cX7_meet 118 = .ok (.iadd, 1) := by decide +kernel
theorem dX7_meet_119 : decode cX7_meet 119 = .ok (.if_icmp .ge 16, 3) := by decide +kernel
theorem dX7_meet_122 : decode cX7_meet 122 = .ok (.iload 11, 2) := by decide +kernel
theorem dX7_meet_124 : decode cX7_meet 124 = .ok (.iload 10, 2) := by decide +kernel
theorem dX7_meet_126 : decode cX7_meet 126 = .ok (.iload 7, 2) := by decide +kernel
theorem dX7_meet_128 : decode cX7_meet 128 = .ok (.iadd, 1) := by decide +kernel
theorem dX7_meet_129 : decode cX7_meet 129 = .ok (.if_icmp .ge 6, 3) := by decide +kernel
theorem dX7_meet_132 : decode cX7_meet 132 = .ok (.iload 9, 2) := by decide +kernel
theorem dX7_meet_134 : decode cX7_meet 134 = .ok (.ireturn, 1) := by decide +kernel
theorem dX7_meet_135 : decode cX7_meet 135 = .ok (.iinc 9 1, 3) := by decide +kernel
theorem dX7_meet_138 : decode cX7_meet 138 = .ok (.goto (-67), 3) := by decide +kernel
theorem dX7_meet_141 : decode cX7_meet 141 = .ok (.bipush (-4), 2) := by decide +kernel
theorem dX7_meet_143 : decode cX7_meet 143 = .ok (.ireturn, 1) := by decide +kernel
theorem dX7_day_0 : decode cX7_day 0 = .ok (.iload_n 1, 1) := by decide +kernel
theorem dX7_day_1 : decode cX7_day 1 = .ok (.ifCond .eq 35, 3) := by decide +kernel
theorem dX7_day_4 : decode cX7_day 4 = .ok (.iload_n 1, 1) := by decide +kernel
theorem dX7_day_5 : decode cX7_day 5 = .ok (.aload_n 0, 1) := by decide +kernel
theorem dX7_day_6 : decode cX7_day 6 = .ok (.getfield 10, 3) := by decide +kernel
theorem dX7_day_9 : decode cX7_day 9 = .ok (.getfield 137, 3) := by decide +kernel
theorem dX7_day_12 : decode cX7_day 12 = .ok (.iushr, 1) := by decide +kernel
theorem dX7_day_13 : decode cX7_day 13 = .ok (.ifCond .ne 23, 3) := by decide +kernel
theorem dX7_day_16 : decode cX7_day 16 = .ok (.iload_n 2, 1) := by decide +kernel
theorem dX7_day_17 : decode cX7_day 17 = .ok (.iconst 1, 1) := by decide +kernel
theorem dX7_day_18 : decode cX7_day 18 = .ok (.sipush 240, 3) := by decide +kernel
theorem dX7_day_21 : decode cX7_day 21 = .ok (.invokestatic 83, 3) := by decide +kernel
theorem dX7_day_24 : decode cX7_day 24 = .ok (.ifCond .eq 12, 3) := by decide +kernel
theorem dX7_day_27 : decode cX7_day 27 = .ok (.iload_n 3, 1) := by decide +kernel
theorem dX7_day_28 : decode cX7_day 28 = .ok (.iconst (-1), 1) := by decide +kernel
theorem dX7_day_29 : decode cX7_day 29 = .ok (.iconst 5, 1) := by decide +kernel
theorem dX7_day_30 : decode cX7_day 30 = .ok (.invokestatic 83, 3) := by decide +kernel
theorem dX7_day_33 : decode cX7_day 33 = .ok (.ifCond .ne 5, 3) := by decide +kernel
theorem dX7_day_36 : decode cX7_day 36 = .ok (.iconst (-1), 1) := by decide +kernel
theorem dX7_day_37 : decode cX7_day 37 = .ok (.ireturn, 1) := by decide +kernel
theorem dX7_day_38 : decode cX7_day 38 = .ok (.aload_n 0, 1) := by decide +kernel
theorem dX7_day_39 : decode cX7_day 39 = .ok (.getfield 10, 3) := by decide +kernel
theorem dX7_day_42 : decode cX7_day 42 = .ok (.getfield 133, 3) := by decide +kernel
theorem dX7_day_45 : decode cX7_day 45 = .ok (.ifCond .ne 6, 3) := by decide +kernel
theorem dX7_day_48 : decode cX7_day 48 = .ok (.bipush (-2), 2) := by decide +kernel
theorem dX7_day_50 : decode cX7_day 50 = .ok (.ireturn, 1) := by decide +kernel
theorem dX7_day_51 : decode cX7_day 51 = .ok (.aload_n 0, 1) := by decide +kernel
theorem dX7_day_52 : decode cX7_day 52 = .ok (.getfield 38, 3) := by decide +kernel
theorem dX7_day_55 : decode cX7_day 55 = .ok (.invokevirtual 223, 3) := by decide +kernel
theorem dX7_day_58 : decode cX7_day 58 = .ok (.iconst 0, 1) := by decide +kernel
theorem dX7_day_59 : decode cX7_day 59 = .ok (.istore 4, 2) := by decide +kernel
theorem dX7_day_61 : decode cX7_day 61 = .ok (.iload 4, 2) := by decide +kernel
theorem dX7_day_63 : decode cX7_day 63 = .ok (.aload_n 0, 1) := by decide +kernel
theorem dX7_day_64 : decode cX7_day 64 = .ok (.getfield 10, 3) := by decide +kernel
theorem dX7_day_67 : decode cX7_day 67 = .ok (.getfield 137, 3) := by decide +kernel
theorem dX7_day_70 : decode cX7_day 70 = .ok (.if_icmp .ge 54, 3) := by decide +kernel
theorem dX7_day_73 : decode cX7_day 73 = .ok (.iload_n 1, 1) := by decide +kernel
theorem dX7_day_74 : decode cX7_day 74 = .ok (.iload 4, 2) := by decide +kernel
theorem dX7_day_76 : decode cX7_day 76 = .ok (.ishr, 1) := by decide +kernel
theorem dX7_day_77 : decode cX7_day 77 = .ok (.iconst 1, 1) := by decide +kernel
theorem dX7_day_78 : decode cX7_day 78 = .ok (.iand, 1) := by decide +kernel
theorem dX7_day_79 : decode cX7_day 79 = .ok (.ifCond .eq 39, 3) := by decide +kernel
theorem dX7_day_82 : decode cX7_day 82 = .ok (.aload_n 0, 1) := by decide +kernel
theorem dX7_day_83 : decode cX7_day 83 = .ok (.getfield 24, 3) := by decide +kernel
theorem dX7_day_86 : decode cX7_day 86 = .ok (.iload 4, 2) := by decide +kernel
theorem dX7_day_88 : decode cX7_day 88 = .ok (.invokevirtual 155, 3) := by decide +kernel
theorem dX7_day_91 : decode cX7_day 91 = .ok (.aload_n 0, 1) := by decide +kernel
theorem dX7_day_92 : decode cX7_day 92 = .ok (.getfield 38, 3) := by decide +kernel
theorem dX7_day_95 : decode cX7_day 95 = .ok (.aload_n 0, 1) := by decide +kernel
theorem dX7_day_96 : decode cX7_day 96 = .ok (.getfield 24, 3) := by decide +kernel
theorem dX7_day_99 : decode cX7_day 99 = .ok (.invokevirtual 229, 3) := by decide +kernel
theorem dX7_day_102 : decode cX7_day 102 = .ok (.aload_n 0, 1) := by decide +kernel
theorem dX7_day_103 : decode cX7_day 103 = .ok (.getfield 38, 3) := by decide +kernel
theorem dX7_day_106 : decode cX7_day 106 = .ok (.aload_n 0, 1) := by decide +kernel
theorem dX7_day_107 : decode cX7_day 107 = .ok (.getfield 45, 3) := by decide +kernel
theorem dX7_day_110 : decode cX7_day 110 = .ok (.iload 4, 2) := by decide +kernel
theorem dX7_day_112 : decode cX7_day 112 = .ok (.invokevirtual 204, 3) := by decide +kernel
theorem dX7_day_115 : decode cX7_day 115 = .ok (.invokevirtual 208, 3) := by decide +kernel
theorem dX7_day_118 : decode cX7_day 118 = .ok (.iinc 4 1, 3) := by decide +kernel
theorem dX7_day_121 : decode cX7_day 121 = .ok (.goto (-60), 3) := by decide +kernel
theorem dX7_day_124 : decode cX7_day 124 = .ok (.aload_n 0, 1) := by decide +kernel
theorem dX7_day_125 : decode cX7_day 125 = .ok (.getfield 45, 3) := by decide +kernel
theorem dX7_day_128 : decode cX7_day 128 = .ok (.iload_n 1, 1) := by decide +kernel
theorem dX7_day_129 : decode cX7_day 129 = .ok (.iload_n 2, 1) := by decide +kernel
theorem dX7_day_130 : decode cX7_day 130 = .ok (.invokevirtual 260, 3) := by decide +kernel
theorem dX7_day_133 : decode cX7_day 133 = .ok (.istore 4, 2) := by decide +kernel
theorem dX7_day_135 : decode cX7_day 135 = .ok (.iload_n 3, 1) := by decide +kernel
theorem dX7_day_136 : decode cX7_day 136 = .ok (.ifCond .lt 10, 3) := by decide +kernel
theorem dX7_day_139 : decode cX7_day 139 = .ok (.iload 4, 2) := by decide +kernel
theorem dX7_day_141 : decode cX7_day 141 = .ok (.bipush (-4), 2) := by decide +kernel
theorem dX7_day_143 : decode cX7_day 143 = .ok (.if_icmp .ne 8, 3) := by decide +kernel
theorem dX7_day_146 : decode cX7_day 146 = .ok (.iload 4, 2) := by decide +kernel
theorem dX7_day_148 : decode cX7_day 148 = .ok (.goto 11, 3) := by decide +kernel
theorem dX7_day_151 : decode cX7_day 151 = .ok (.aload_n 0, 1) := by decide +kernel
theorem dX7_day_152 : decode cX7_day 152 = .ok (.getfield 45, 3) := by decide +kernel
theorem dX7_day_155 : decode cX7_day 155 = .ok (.iload_n 3, 1) := by decide +kernel
theorem dX7_day_156 : decode cX7_day 156 = .ok (.invokevirtual 263, 3) := by decide +kernel
theorem dX7_day_159 : decode cX7_day 159 = .ok (.ireturn, 1) := by decide +kernel
theorem dX7_dredged_0 : decode cX7_dredged 0 = .ok (.aload_n 0, 1) := by decide +kernel
theorem dX7_dredged_1 : decode cX7_dredged 1 = .ok (.iload_n 1, 1) := by decide +kernel
theorem dX7_dredged_2 : decode cX7_dredged 2 = .ok (.iload_n 2, 1) := by decide +kernel
theorem dX7_dredged_3 : decode cX7_dredged 3 = .ok (.invokevirtual 174, 3) := by decide +kernel
theorem dX7_dredged_6 : decode cX7_dredged 6 = .ok (.ifCond .eq 12, 3) := by decide +kernel
theorem dX7_dredged_9 : decode cX7_dredged 9 = .ok (.iload_n 3, 1) := by decide +kernel
theorem dX7_dredged_10 : decode cX7_dredged 10 = .ok (.iconst 0, 1) := by decide +kernel
theorem dX7_dredged_11 : decode cX7_dredged 11 = .ok (.iconst 1, 1) := by decide +kernel
theorem dX7_dredged_12 : decode cX7_dredged 12 = .ok (.invokestatic 83, 3) := by decide +kernel
theorem dX7_dredged_15 : decode cX7_dredged 15 = .ok (.ifCond .ne 5, 3) := by decide +kernel
theorem dX7_dredged_18 : decode cX7_dredged 18 = .ok (.iconst (-1), 1) := by decide +kernel
theorem dX7_dredged_19 : decode cX7_dredged 19 = .ok (.ireturn, 1) := by decide +kernel
theorem dX7_dredged_20 : decode cX7_dredged 20 = .ok (.aload_n 0, 1) := by decide +kernel
theorem dX7_dredged_21 : decode cX7_dredged 21 = .ok (.getfield 10, 3) := by decide +kernel
theorem dX7_dredged_24 : decode cX7_dredged 24 = .ok (.getfield 133, 3) := by decide +kernel
theorem dX7_dredged_27 : decode cX7_dredged 27 = .ok (.ifCond .ne 6, 3) := by decide +kernel
theorem dX7_dredged_30 : decode cX7_dredged 30 = .ok (.bipush (-2), 2) := by decide +kernel
theorem dX7_dredged_32 : decode cX7_dredged 32 = .ok (.ireturn, 1) := by decide +kernel
theorem dX7_dredged_33 : decode cX7_dredged 33 = .ok (.aload_n 0, 1) := by decide +kernel
theorem dX7_dredged_34 : decode cX7_dredged 34 = .ok (.getfield 24, 3) := by decide +kernel
theorem dX7_dredged_37 : decode cX7_dredged 37 = .ok (.iload_n 1, 1) := by decide +kernel
theorem dX7_dredged_38 : decode cX7_dredged 38 = .ok (.invokevirtual 155, 3) := by decide +kernel
theorem dX7_dredged_41 : decode cX7_dredged 41 = .ok (.aload_n 0, 1) := by decide +kernel
theorem dX7_dredged_42 : decode cX7_dredged 42 = .ok (.getfield 38, 3) := by decide +kernel
theorem dX7_dredged_45 : decode cX7_dredged 45 = .ok (.aload_n 0, 1) := by decide +kernel
theorem dX7_dredged_46 : decode cX7_dredged 46 = .ok (.getfield 24, 3) := by decide +kernel
theorem dX7_dredged_49 : decode cX7_dredged 49 = .ok (.invokevirtual 195, 3) := by decide +kernel
theorem dX7_dredged_52 : decode cX7_dredged 52 = .ok (.aload_n 0, 1) := by decide +kernel
theorem dX7_dredged_53 : decode cX7_dredged 53 = .ok (.getfield 38, 3) := by decide +kernel
theorem dX7_dredged_56 : decode cX7_dredged 56 = .ok (.iload_n 2, 1) := by decide +kernel
theorem dX7_dredged_57 : decode cX7_dredged 57 = .ok (.invokevirtual 198, 3) := by decide +kernel
theorem dX7_dredged_60 : decode cX7_dredged 60 = .ok (.istore 4, 2) := by decide +kernel
theorem dX7_dredged_62 : decode cX7_dredged 62 = .ok (.iload 4, 2) := by decide +kernel
theorem dX7_dredged_64 : decode cX7_dredged 64 = .ok (.bipush (-4), 2) := by decide +kernel
theorem dX7_dredged_66 : decode cX7_dredged 66 = .ok (.if_icmp .ne 6, 3) := by decide +kernel
theorem dX7_dredged_69 : decode cX7_dredged 69 = .ok (.bipush (-4), 2) := by decide +kernel
theorem dX7_dredged_71 : decode cX7_dredged 71 = .ok (.ireturn, 1) := by decide +kernel
theorem dX7_dredged_72 : decode cX7_dredged 72 = .ok (.bipush (-4), 2) := by decide +kernel
theorem dX7_dredged_74 : decode cX7_dredged 74 = .ok (.istore 5, 2) := by decide +kernel
theorem dX7_dredged_76 : decode cX7_dredged 76 = .ok (.bipush (-4), 2) := by decide +kernel
theorem dX7_dredged_78 : decode cX7_dredged 78 = .ok (.istore 6, 2) := by decide +kernel
theorem dX7_dredged_80 : decode cX7_dredged 80 = .ok (.iconst 0, 1) := by decide +kernel
theorem dX7_dredged_81 : decode cX7_dredged 81 = .ok (.istore 7, 2) := by decide +kernel
theorem dX7_dredged_83 : decode cX7_dredged 83 = .ok (.iload 7, 2) := by decide +kernel
theorem dX7_dredged_85 : decode cX7_dredged 85 = .ok (.aload_n 0, 1) := by decide +kernel
theorem dX7_dredged_86 : decode cX7_dredged 86 = .ok (.getfield 10, 3) := by decide +kernel
theorem dX7_dredged_89 : decode cX7_dredged 89 = .ok (.getfield 133, 3) := by decide +kernel
theorem dX7_dredged_92 : decode cX7_dredged 92 = .ok (.if_icmp .ge 98, 3) := by decide +kernel
theorem dX7_dredged_95 : decode cX7_dredged 95 = .ok (.aload_n 0, 1) := by decide +kernel
theorem dX7_dredged_96 : decode cX7_dredged 96 = .ok (.getfield 10, 3) := by decide +kernel
theorem dX7_dredged_99 : decode cX7_dredged 99 = .ok (.iload 7, 2) := by decide +kernel
theorem dX7_dredged_101 : decode cX7_dredged 101 = .ok (.iconst 0, 1) := by decide +kernel
theorem dX7_dredged_102 : decode cX7_dredged 102 = .ok (.invokevirtual 91, 3) := by decide +kernel
theorem dX7_dredged_105 : decode cX7_dredged 105 = .ok (.getstatic 266, 3) := by decide +kernel
theorem dX7_dredged_108 : decode cX7_dredged 108 = .ok (.iconst 0, 1) := by decide +kernel
theorem dX7_dredged_109 : decode cX7_dredged 109 = .ok (.iaload, 1) := by decide +kernel
theorem dX7_dredged_110 : decode cX7_dredged 110 = .ok (.if_icmp .ge 74, 3) := by decide +kernel
theorem dX7_dredged_113 : decode cX7_dredged 113 = .ok (.aload_n 0, 1) := by decide +kernel
theorem dX7_dredged_114 : decode cX7_dredged 114 = .ok (.getfield 24, 3) := by decide +kernel
theorem dX7_dredged_117 : decode cX7_dredged 117 = .ok (.iload 7, 2) := by decide +kernel
theorem dX7_dredged_119 : decode cX7_dredged 119 = .ok (.putfield 269, 3) := by decide +kernel
theorem dX7_dredged_122 : decode cX7_dredged 122 = .ok (.aload_n 0, 1) := by decide +kernel
theorem dX7_dredged_123 : decode cX7_dredged 123 = .ok (.getfield 38, 3) := by decide +kernel
theorem dX7_dredged_126 : decode cX7_dredged 126 = .ok (.aload_n 0, 1) := by decide +kernel
theorem dX7_dredged_127 : decode cX7_dredged 127 = .ok (.getfield 24, 3) := by decide +kernel
theorem dX7_dredged_130 : decode cX7_dredged 130 = .ok (.iload 7, 2) := by decide +kernel
theorem dX7_dredged_132 : decode cX7_dredged 132 = .ok (.invokevirtual 272, 3) := by decide +kernel
theorem dX7_dredged_135 : decode cX7_dredged 135 = .ok (.iload 4, 2) := by decide +kernel
theorem dX7_dredged_137 : decode cX7_dredged 137 = .ok (.aload_n 0, 1) := by decide +kernel
theorem dX7_dredged_138 : decode cX7_dredged 138 = .ok (.getfield 38, 3) := by decide +kernel
theorem dX7_dredged_141 : decode cX7_dredged 141 = .ok (.iload_n 2, 1) := by decide +kernel
theorem dX7_dredged_142 : decode cX7_dredged 142 = .ok (.invokevirtual 198, 3) := by decide +kernel
theorem dX7_dredged_145 : decode cX7_dredged 145 = .ok (.isub, 1) := by decide +kernel
theorem dX7_dredged_146 : decode cX7_dredged 146 = .ok (.istore 8, 2) := by decide +kernel
theorem dX7_dredged_148 : decode cX7_dredged 148 = .ok (.aload_n 0, 1) := by decide +kernel
theorem dX7_dredged_149 : decode cX7_dredged 149 = .ok (.getfield 24, 3) := by decide +kernel
theorem dX7_dredged_152 : decode cX7_dredged 152 = .ok (.iconst (-1), 1) := by decide +kernel
theorem dX7_dredged_153 : decode cX7_dredged 153 = .ok (.putfield 269, 3) := by decide +kernel
theorem dX7_dredged_156 : decode cX7_dredged 156 = .ok (.aload_n 0, 1) := by decide +kernel
theorem dX7_dredged_157 : decode cX7_dredged 157 = .ok (.getfield 38, 3) := by decide +kernel
theorem dX7_dredged_160 : decode cX7_dredged 160 = .ok (.aload_n 0, 1) := by decide +kernel
theorem dX7_dredged_161 : decode cX7_dredged 161 = .ok (.getfield 24, 3) := by decide +kernel
theorem dX7_dredged_164 : decode cX7_dredged 164 = .ok (.iload 7, 2) := by decide +kernel
theorem dX7_dredged_166 : decode cX7_dredged 166 = .ok (.invokevirtual 272, 3) := by decide +kernel
theorem dX7_dredged_169 : decode cX7_dredged 169 = .ok (.iload 8, 2) := by decide +kernel
theorem dX7_dredged_171 : decode cX7_dredged 171 = .ok (.iload 6, 2) := by decide +kernel
theorem dX7_dredged_173 : decode cX7_dredged 173 = .ok (.if_icmp .le 11, 3) := by decide +kernel
theorem dX7_dredged_176 : decode cX7_dredged 176 = .ok (.iload 8, 2) := by decide +kernel
theorem dX7_dredged_178 : decode cX7_dredged 178 = .ok (.istore 6, 2) := by decide +kernel
theorem dX7_dredged_180 : decode cX7_dredged 180 = .ok (.iload 7, 2) := by decide +kernel
theorem dX7_dredged_182 : decode cX7_dredged 182 = .ok (.istore 5, 2) := by decide +kernel
theorem dX7_dredged_184 : decode cX7_dredged 184 = .ok (.iinc 7 1, 3) := by decide +kernel
theorem dX7_dredged_187 : decode cX7_dredged 187 = .ok (.goto (-104), 3) := by decide +kernel
theorem dX7_dredged_190 : decode cX7_dredged 190 = .ok (.iload_n 3, 1) := by decide +kernel
theorem dX7_dredged_191 : decode cX7_dredged 191 = .ok (.ifCond .ne 8, 3) := by decide +kernel
theorem dX7_dredged_194 : decode cX7_dredged 194 = .ok (.iload 5, 2) := by decide +kernel
theorem dX7_dredged_196 : decode cX7_dredged 196 = .ok (.goto 5, 3) := by decide +kernel
theorem dX7_dredged_199 : decode cX7_dredged 199 = .ok (.iload 6, 2) := by decide +kernel
theorem dX7_dredged_201 : decode cX7_dredged 201 = .ok (.ireturn, 1) := by decide +kernel
theorem dX7_lost_0 : decode cX7_lost 0 = .ok (.aload_n 0, 1) := by decide +kernel
theorem dX7_lost_1 : decode cX7_lost 1 = .ok (.iload_n 1, 1) := by decide +kernel
theorem dX7_lost_2 : decode cX7_lost 2 = .ok (.iload_n 2, 1) := by decide +kernel
theorem dX7_lost_3 : decode cX7_lost 3 = .ok (.invokevirtual 174, 3) := by decide +kernel
theorem dX7_lost_6 : decode cX7_lost 6 = .ok (.ifCond .eq 30, 3) := by decide +kernel
theorem dX7_lost_9 : decode cX7_lost 9 = .ok (.iload_n 3, 1) := by decide +kernel
theorem dX7_lost_10 : decode cX7_lost 10 = .ok (.iconst 0, 1) := by decide +kernel
theorem dX7_lost_11 : decode cX7_lost 11 = .ok (.getstatic 97, 3) := by decide +kernel
theorem dX7_lost_14 : decode cX7_lost 14 = .ok (.iconst 3, 1) := by decide +kernel
theorem dX7_lost_15 : decode cX7_lost 15 = .ok (.iaload, 1) := by decide +kernel
theorem dX7_lost_16 : decode cX7_lost 16 = .ok (.invokestatic 83, 3) := by decide +kernel
theorem dX7_lost_19 : decode cX7_lost 19 = .ok (.ifCond .eq 17, 3) := by decide +kernel
theorem dX7_lost_22 : decode cX7_lost 22 = .ok (.iload 4, 2) := by decide +kernel
theorem dX7_lost_24 : decode cX7_lost 24 = .ok (.iconst 0, 1) := by decide +kernel
theorem dX7_lost_25 : decode cX7_lost 25 = .ok (.getstatic 97, 3) := by decide +kernel
theorem dX7_lost_28 : decode cX7_lost 28 = .ok (.iconst 4, 1) := by decide +kernel
theorem dX7_lost_29 : decode cX7_lost 29 = .ok (.iaload, 1) := by decide +kernel
theorem dX7_lost_30 : decode cX7_lost 30 = .ok (.invokestatic 83, 3) := by decide +kernel
theorem dX7_lost_33 : decode cX7_lost 33 = .ok (.ifCond .ne 5, 3) := by decide +kernel
theorem dX7_lost_36 : decode cX7_lost 36 = .ok (.iconst (-1), 1) := by decide +kernel
theorem dX7_lost_37 : decode cX7_lost 37 = .ok (.ireturn, 1) := by decide +kernel
theorem dX7_lost_38 : decode cX7_lost 38 = .ok (.aload_n 0, 1) := by decide +kernel
theorem dX7_lost_39 : decode cX7_lost 39 = .ok (.getfield 10, 3) := by decide +kernel
theorem dX7_lost_42 : decode cX7_lost 42 = .ok (.getfield 133, 3) := by decide +kernel
theorem dX7_lost_45 : decode cX7_lost 45 = .ok (.ifCond .ne 6, 3) := by decide +kernel
theorem dX7_lost_48 : decode cX7_lost 48 = .ok (.bipush (-2), 2) := by decide +kernel
theorem dX7_lost_50 : decode cX7_lost 50 = .ok (.ireturn, 1) := by decide +kernel
theorem dX7_lost_51 : decode cX7_lost 51 = .ok (.aload_n 0, 1) := by decide +kernel
theorem dX7_lost_52 : decode cX7_lost 52 = .ok (.getfield 24, 3) := by decide +kernel
theorem dX7_lost_55 : decode cX7_lost 55 = .ok (.iload_n 1, 1) := by decide +kernel
theorem dX7_lost_56 : decode cX7_lost 56 = .ok (.invokevirtual 155, 3) := by decide +kernel
theorem dX7_lost_59 : decode cX7_lost 59 = .ok (.aload_n 0, 1) := by decide +kernel
theorem dX7_lost_60 : decode cX7_lost 60 = .ok (.getfield 24, 3) := by decide +kernel
theorem dX7_lost_63 : decode cX7_lost 63 = .ok (.iload_n 3, 1) := by decide +kernel
theorem dX7_lost_64 : decode cX7_lost 64 = .ok (.iload 4, 2) := by decide +kernel
theorem dX7_lost_66 : decode cX7_lost 66 = .ok (.invokevirtual 275, 3) := by decide +kernel
theorem dX7_lost_69 : decode cX7_lost 69 = .ok (.aload_n 0, 1) := by decide +kernel
theorem dX7_lost_70 : decode cX7_lost 70 = .ok (.getfield 38, 3) := by decide +kernel
theorem dX7_lost_73 : decode cX7_lost 73 = .ok (.aload_n 0, 1) := by decide +kernel
theorem dX7_lost_74 : decode cX7_lost 74 = .ok (.getfield 24, 3) := by decide +kernel
theorem dX7_lost_77 : decode cX7_lost 77 = .ok (.invokevirtual 195, 3) := by decide +kernel
theorem dX7_lost_80 : decode cX7_lost 80 = .ok (.aload_n 0, 1) := by decide +kernel
theorem dX7_lost_81 : decode cX7_lost 81 = .ok (.getfield 38, 3) := by decide +kernel
theorem dX7_lost_84 : decode cX7_lost 84 = .ok (.iload_n 2, 1) := by decide +kernel
theorem dX7_lost_85 : decode cX7_lost 85 = .ok (.invokevirtual 198, 3) := by decide +kernel
theorem dX7_lost_88 : decode cX7_lost 88 = .ok (.istore 5, 2) := by decide +kernel
theorem dX7_lost_90 : decode cX7_lost 90 = .ok (.aload_n 0, 1) := by decide +kernel
theorem dX7_lost_91 : decode cX7_lost 91 = .ok (.getfield 24, 3) := by decide +kernel
theorem dX7_lost_94 : decode cX7_lost 94 = .ok (.iload_n 3, 1) := by decide +kernel
theorem dX7_lost_95 : decode cX7_lost 95 = .ok (.iconst 0, 1) := by decide +kernel
theorem dX7_lost_96 : decode cX7_lost 96 = .ok (.invokevirtual 275, 3) := by decide +kernel
theorem dX7_lost_99 : decode cX7_lost 99 = .ok (.aload_n 0, 1) := by decide +kernel
theorem dX7_lost_100 : decode cX7_lost 100 = .ok (.getfield 38, 3) := by decide +kernel
theorem dX7_lost_103 : decode cX7_lost 103 = .ok (.aload_n 0, 1) := by decide +kernel
theorem dX7_lost_104 : decode cX7_lost 104 = .ok (.getfield 24, 3) := by decide +kernel
theorem dX7_lost_107 : decode cX7_lost 107 = .ok (.invokevirtual 229, 3) := by decide +kernel
theorem dX7_lost_110 : decode cX7_lost 110 = .ok (.aload_n 0, 1) := by decide +kernel
theorem dX7_lost_111 : decode cX7_lost 111 = .ok (.getfield 38, 3) := by decide +kernel
theorem dX7_lost_114 : decode cX7_lost 114 = .ok (.iload_n 2, 1) := by decide +kernel
theorem dX7_lost_115 : decode cX7_lost 115 = .ok (.invokevirtual 198, 3) := by decide +kernel
theorem dX7_lost_118 : decode cX7_lost 118 = .ok (.istore 6, 2) := by decide +kernel
theorem dX7_lost_120 : decode cX7_lost 120 = .ok (.iload 5, 2) := by decide +kernel
theorem dX7_lost_122 : decode cX7_lost 122 = .ok (.bipush (-4), 2) := by decide +kernel
theorem dX7_lost_124 : decode cX7_lost 124 = .ok (.if_icmp .eq 10, 3) := by decide +kernel
theorem dX7_lost_127 : decode cX7_lost 127 = .ok (.iload 6, 2) := by decide +kernel
theorem dX7_lost_129 : decode cX7_lost 129 = .ok (.bipush (-4), 2) := by decide +kernel
theorem dX7_lost_131 : decode cX7_lost 131 = .ok (.if_icmp .ne 8, 3) := by decide +kernel
theorem dX7_lost_134 : decode cX7_lost 134 = .ok (.bipush (-4), 2) := by decide +kernel
theorem dX7_lost_136 : decode cX7_lost 136 = .ok (.goto 8, 3) := by decide +kernel
theorem dX7_lost_139 : decode cX7_lost 139 = .ok (.iload 5, 2) := by decide +kernel
theorem dX7_lost_141 : decode cX7_lost 141 = .ok (.iload 6, 2) := by decide +kernel
theorem dX7_lost_143 : decode cX7_lost 143 = .ok (.isub, 1) := by decide +kernel
theorem dX7_lost_144 : decode cX7_lost 144 = .ok (.ireturn, 1) := by decide +kernel
theorem dX7_touched_0 : decode cX7_touched 0 = .ok (.aload_n 0, 1) := by decide +kernel
theorem dX7_touched_1 : decode cX7_touched 1 = .ok (.iload_n 1, 1) := by decide +kernel
theorem dX7_touched_2 : decode cX7_touched 2 = .ok (.iload_n 2, 1) := by decide +kernel
theorem dX7_touched_3 : decode cX7_touched 3 = .ok (.iload_n 3, 1) := by decide +kernel
theorem dX7_touched_4 : decode cX7_touched 4 = .ok (.iconst 0, 1) := by decide +kernel
theorem dX7_touched_5 : decode cX7_touched 5 = .ok (.invokevirtual 191, 3) := by decide +kernel
theorem dX7_touched_8 : decode cX7_touched 8 = .ok (.istore 4, 2) := by decide +kernel
theorem dX7_touched_10 : decode cX7_touched 10 = .ok (.iload 4, 2) := by decide +kernel
theorem dX7_touched_12 : decode cX7_touched 12 = .ok (.ifCond .eq 6, 3) := by decide +kernel
theorem dX7_touched_15 : decode cX7_touched 15 = .ok (.iload 4, 2) := by decide +kernel
theorem dX7_touched_17 : decode cX7_touched 17 = .ok (.ireturn, 1) := by decide +kernel
theorem dX7_touched_18 : decode cX7_touched 18 = .ok (.aload_n 0, 1) := by decide +kernel
theorem dX7_touched_19 : decode cX7_touched 19 = .ok (.getfield 24, 3) := by decide +kernel
theorem dX7_touched_22 : decode cX7_touched 22 = .ok (.iload_n 1, 1) := by decide +kernel
theorem dX7_touched_23 : decode cX7_touched 23 = .ok (.invokevirtual 155, 3) := by decide +kernel
theorem dX7_touched_26 : decode cX7_touched 26 = .ok (.iconst 0, 1) := by decide +kernel
theorem dX7_touched_27 : decode cX7_touched 27 = .ok (.istore 5, 2) := by decide +kernel
theorem dX7_touched_29 : decode cX7_touched 29 = .ok (.iconst 0, 1) := by decide +kernel
theorem dX7_touched_30 : decode cX7_touched 30 = .ok (.istore 6, 2) := by decide +kernel
theorem dX7_touched_32 : decode cX7_touched 32 = .ok (.iload 6, 2) := by decide +kernel
theorem dX7_touched_34 : decode cX7_touched 34 = .ok (.getstatic 97, 3) := by decide +kernel
theorem dX7_touched_37 : decode cX7_touched 37 = .ok (.iconst 1, 1) := by decide +kernel
theorem dX7_touched_38 : decode cX7_touched 38 = .ok (.iaload, 1) := by decide +kernel
theorem dX7_touched_39 : decode cX7_touched 39 = .ok (.if_icmp .gt 50, 3) := by decide +kernel
theorem dX7_touched_42 : decode cX7_touched 42 = .ok (.aload_n 0, 1) := by decide +kernel
theorem dX7_touched_43 : decode cX7_touched 43 = .ok (.getfield 24, 3) := by decide +kernel
theorem dX7_touched_46 : decode cX7_touched 46 = .ok (.iload 6, 2) := by decide +kernel
theorem dX7_touched_48 : decode cX7_touched 48 = .ok (.putfield 279, 3) := by decide +kernel
theorem dX7_touched_51 : decode cX7_touched 51 = .ok (.aload_n 0, 1) := by decide +kernel
theorem dX7_touched_52 : decode cX7_touched 52 = .ok (.getfield 31, 3) := by decide +kernel
theorem dX7_touched_55 : decode cX7_touched 55 = .ok (.aload_n 0, 1) := by decide +kernel
theorem dX7_touched_56 : decode cX7_touched 56 = .ok (.getfield 24, 3) := by decide +kernel
theorem dX7_touched_59 : decode cX7_touched 59 = .ok (.iload_n 2, 1) := by decide +kernel
theorem dX7_touched_60 : decode cX7_touched 60 = .ok (.invokevirtual 177, 3) := by decide +kernel
theorem dX7_touched_63 : decode cX7_touched 63 = .ok (.aload_n 0, 1) := by decide +kernel
theorem dX7_touched_64 : decode cX7_touched 64 = .ok (.getfield 31, 3) := by decide +kernel
theorem dX7_touched_67 : decode cX7_touched 67 = .ok (.getfield 181, 3) := by decide +kernel
theorem dX7_touched_70 : decode cX7_touched 70 = .ok (.iload_n 3, 1) := by decide +kernel
theorem dX7_touched_71 : decode cX7_touched 71 = .ok (.if_icmp .ne 12, 3) := by decide +kernel
theorem dX7_touched_74 : decode cX7_touched 74 = .ok (.iload 5, 2) := by decide +kernel
theorem dX7_touched_76 : decode cX7_touched 76 = .ok (.iconst 1, 1) := by decide +kernel
theorem dX7_touched_77 : decode cX7_touched 77 = .ok (.iload 6, 2) := by decide +kernel
theorem dX7_touched_79 : decode cX7_touched 79 = .ok (.ishl, 1) := by decide +kernel
theorem dX7_touched_80 : decode cX7_touched 80 = .ok (.ior, 1) := by decide +kernel
theorem dX7_touched_81 : decode cX7_touched 81 = .ok (.istore 5, 2) := by decide +kernel
theorem dX7_touched_83 : decode cX7_touched 83 = .ok (.iinc 6 1, 3) := by decide +kernel
theorem dX7_touched_86 : decode cX7_touched 86 = .ok (.goto (-54), 3) := by decide +kernel
theorem dX7_touched_89 : decode cX7_touched 89 = .ok (.iload 5, 2) := by decide +kernel
theorem dX7_touched_91 : decode cX7_touched 91 = .ok (.ireturn, 1) := by decide +kernel
theorem dX7_past_0 : decode cX7_past 0 = .ok (.aload_n 0, 1) := by decide +kernel
theorem dX7_past_1 : decode cX7_past 1 = .ok (.getfield 10, 3) := by decide +kernel
theorem dX7_past_4 : decode cX7_past 4 = .ok (.iload_n 1, 1) := by decide +kernel
theorem dX7_past_5 : decode cX7_past 5 = .ok (.invokevirtual 168, 3) := by decide +kernel
theorem dX7_past_8 : decode cX7_past 8 = .ok (.ifCond .eq 25, 3) := by decide +kernel
theorem dX7_past_11 : decode cX7_past 11 = .ok (.aload_n 0, 1) := by decide +kernel
theorem dX7_past_12 : decode cX7_past 12 = .ok (.getfield 10, 3) := by decide +kernel
theorem dX7_past_15 : decode cX7_past 15 = .ok (.iload_n 2, 1) := by decide +kernel
theorem dX7_past_16 : decode cX7_past 16 = .ok (.invokevirtual 79, 3) := by decide +kernel
theorem dX7_past_19 : decode cX7_past 19 = .ok (.ifCond .eq 14, 3) := by decide +kernel
theorem dX7_past_22 : decode cX7_past 22 = .ok (.iload_n 3, 1) := by decide +kernel
theorem dX7_past_23 : decode cX7_past 23 = .ok (.iconst 0, 1) := by decide +kernel
theorem dX7_past_24 : decode cX7_past 24 = .ok (.sipush 999, 3) := by decide +kernel
theorem dX7_past_27 : decode cX7_past 27 = .ok (.invokestatic 83, 3) := by decide +kernel
theorem dX7_past_30 : decode cX7_past 30 = .ok (.ifCond .ne 5, 3) := by decide +kernel
theorem dX7_past_33 : decode cX7_past 33 = .ok (.iconst (-1), 1) := by decide +kernel
theorem dX7_past_34 : decode cX7_past 34 = .ok (.ireturn, 1) := by decide +kernel
theorem dX7_past_35 : decode cX7_past 35 = .ok (.aload_n 0, 1) := by decide +kernel
theorem dX7_past_36 : decode cX7_past 36 = .ok (.getfield 10, 3) := by decide +kernel
theorem dX7_past_39 : decode cX7_past 39 = .ok (.iload_n 2, 1) := by decide +kernel
theorem dX7_past_40 : decode cX7_past 40 = .ok (.iconst 4, 1) := by decide +kernel
theorem dX7_past_41 : decode cX7_past 41 = .ok (.invokevirtual 91, 3) := by decide +kernel
theorem dX7_past_44 : decode cX7_past 44 = .ok (.istore 4, 2) := by decide +kernel
theorem dX7_past_46 : decode cX7_past 46 = .ok (.iload 4, 2) := by decide +kernel
theorem dX7_past_48 : decode cX7_past 48 = .ok (.ifCond .gt 6, 3) := by decide +kernel
theorem dX7_past_51 : decode cX7_past 51 = .ok (.bipush (-2), 2) := by decide +kernel
theorem dX7_past_53 : decode cX7_past 53 = .ok (.ireturn, 1) := by decide +kernel
theorem dX7_past_54 : decode cX7_past 54 = .ok (.bipush 15, 2) := by decide +kernel
theorem dX7_past_56 : decode cX7_past 56 = .ok (.istore 5, 2) := by decide +kernel
theorem dX7_past_58 : decode cX7_past 58 = .ok (.iload 5, 2) := by decide +kernel
theorem dX7_past_60 : decode cX7_past 60 = .ok (.iconst 1, 1) := by decide +kernel
theorem dX7_past_61 : decode cX7_past 61 = .ok (.if_icmp .lt 34, 3) := by decide +kernel
theorem dX7_past_64 : decode cX7_past 64 = .ok (.iload 5, 2) := by decide +kernel
theorem dX7_past_66 : decode cX7_past 66 = .ok (.iload 5, 2) := by decide +kernel
theorem dX7_past_68 : decode cX7_past 68 = .ok (.imul, 1) := by decide +kernel
theorem dX7_past_69 : decode cX7_past 69 = .ok (.aload_n 0, 1) := by decide +kernel
theorem dX7_past_70 : decode cX7_past 70 = .ok (.getfield 10, 3) := by decide +kernel
theorem dX7_past_73 : decode cX7_past 73 = .ok (.iload_n 1, 1) := by decide +kernel
theorem dX7_past_74 : decode cX7_past 74 = .ok (.iconst 1, 1) := by decide +kernel
theorem dX7_past_75 : decode cX7_past 75 = .ok (.invokevirtual 251, 3) := by decide +kernel
theorem dX7_past_78 : decode cX7_past 78 = .ok (.imul, 1) := by decide +kernel
theorem dX7_past_79 : decode cX7_past 79 = .ok (.iload 4, 2) := by decide +kernel
theorem dX7_past_81 : decode cX7_past 81 = .ok (.idiv, 1) := by decide +kernel
theorem dX7_past_82 : decode cX7_past 82 = .ok (.iload_n 3, 1) := by decide +kernel
theorem dX7_past_83 : decode cX7_past 83 = .ok (.if_icmp .gt 6, 3) := by decide +kernel
theorem dX7_past_86 : decode cX7_past 86 = .ok (.iload 5, 2) := by decide +kernel
theorem dX7_past_88 : decode cX7_past 88 = .ok (.ireturn, 1) := by decide +kernel
theorem dX7_past_89 : decode cX7_past 89 = .ok (.iinc 5 (-1), 3) := by decide +kernel
theorem dX7_past_92 : decode cX7_past 92 = .ok (.goto (-34), 3) := by decide +kernel
theorem dX7_past_95 : decode cX7_past 95 = .ok (.bipush (-4), 2) := by decide +kernel
theorem dX7_past_97 : decode cX7_past 97 = .ok (.ireturn, 1) := by decide +kernel
theorem dX7_image_0 : decode cX7_image 0 = .ok (.aload_n 0, 1) := by decide +kernel
theorem dX7_image_1 : decode cX7_image 1 = .ok (.getfield 16, 3) := by decide +kernel
theorem dX7_image_4 : decode cX7_image 4 = .ok (.aload_n 0, 1) := by decide +kernel
theorem dX7_image_5 : decode cX7_image 5 = .ok (.getfield 10, 3) := by decide +kernel
theorem dX7_image_8 : decode cX7_image 8 = .ok (.invokevirtual 282, 3) := by decide +kernel
theorem dX7_image_11 : decode cX7_image 11 = .ok (.aload_n 0, 1) := by decide +kernel
theorem dX7_image_12 : decode cX7_image 12 = .ok (.iconst 1, 1) := by decide +kernel
theorem dX7_image_13 : decode cX7_image 13 = .ok (.putfield 67, 3) := by decide +kernel
theorem dX7_image_16 : decode cX7_image 16 = .ok (.iconst 1, 1) := by decide +kernel
theorem dX7_image_17 : decode cX7_image 17 = .ok (.ireturn, 1) := by decide +kernel
theorem dX7_restore_0 : decode cX7_restore 0 = .ok (.aload_n 0, 1) := by decide +kernel
theorem dX7_restore_1 : decode cX7_restore 1 = .ok (.getfield 67, 3) := by decide +kernel
theorem dX7_restore_4 : decode cX7_restore 4 = .ok (.ifCond .ne 6, 3) := by decide +kernel
theorem dX7_restore_7 : decode cX7_restore 7 = .ok (.bipush (-4), 2) := by decide +kernel
theorem dX7_restore_9 : decode cX7_restore 9 = .ok (.ireturn, 1) := by decide +kernel
theorem dX7_restore_10 : decode cX7_restore 10 = .ok (.aload_n 0, 1) := by decide +kernel
theorem dX7_restore_11 : decode cX7_restore 11 = .ok (.getfield 10, 3) := by decide +kernel
theorem dX7_restore_14 : decode cX7_restore 14 = .ok (.aload_n 0, 1) := by decide +kernel
theorem dX7_restore_15 : decode cX7_restore 15 = .ok (.getfield 16, 3) := by decide +kernel
theorem dX7_restore_18 : decode cX7_restore 18 = .ok (.invokevirtual 282, 3) := by decide +kernel
theorem dX7_restore_21 : decode cX7_restore 21 = .ok (.iconst 1, 1) := by decide +kernel
theorem dX7_restore_22 : decode cX7_restore 22 = .ok (.ireturn, 1) := by decide +kernel
theorem dX7_gauged_0 : decode cX7_gauged 0 = .ok (.iload 4, 2) := by decide +kernel
theorem dX7_gauged_2 : decode cX7_gauged 2 = .ok (.iconst 1, 1) := by decide +kernel
theorem dX7_gauged_3 : decode cX7_gauged 3 = .ok (.bipush 8, 2) := by decide +kernel
theorem dX7_gauged_5 : decode cX7_gauged 5 = .ok (.invokestatic 83, 3) := by decide +kernel
theorem dX7_gauged_8 : decode cX7_gauged 8 = .ok (.ifCond .eq 13, 3) := by decide +kernel
theorem dX7_gauged_11 : decode cX7_gauged 11 = .ok (.iload 5, 2) := by decide +kernel
theorem dX7_gauged_13 : decode cX7_gauged 13 = .ok (.iconst 0, 1) := by decide +kernel
theorem dX7_gauged_14 : decode cX7_gauged 14 = .ok (.iconst 2, 1) := by decide +kernel
theorem dX7_gauged_15 : decode cX7_gauged 15 = .ok (.invokestatic 83, 3) := by decide +kernel
theorem dX7_gauged_18 : decode cX7_gauged 18 = .ok (.ifCond .ne 5, 3) := by decide +kernel
theorem dX7_gauged_21 : decode cX7_gauged 21 = .ok (.iconst (-1), 1) := by decide +kernel
theorem dX7_gauged_22 : decode cX7_gauged 22 = .ok (.ireturn, 1) := by decide +kernel
theorem dX7_gauged_23 : decode cX7_gauged 23 = .ok (.aload_n 0, 1) := by decide +kernel
theorem dX7_gauged_24 : decode cX7_gauged 24 = .ok (.getfield 59, 3) := by decide +kernel
theorem dX7_gauged_27 : decode cX7_gauged 27 = .ok (.iload_n 1, 1) := by decide +kernel
theorem dX7_gauged_28 : decode cX7_gauged 28 = .ok (.iload_n 2, 1) := by decide +kernel
theorem dX7_gauged_29 : decode cX7_gauged 29 = .ok (.iload_n 3, 1) := by decide +kernel
theorem dX7_gauged_30 : decode cX7_gauged 30 = .ok (.iconst 2, 1) := by decide +kernel
theorem dX7_gauged_31 : decode cX7_gauged 31 = .ok (.iload 4, 2) := by decide +kernel
theorem dX7_gauged_33 : decode cX7_gauged 33 = .ok (.imul, 1) := by decide +kernel
theorem dX7_gauged_34 : decode cX7_gauged 34 = .ok (.invokevirtual 285, 3) := by decide +kernel
theorem dX7_gauged_37 : decode cX7_gauged 37 = .ok (.istore 6, 2) := by decide +kernel
theorem dX7_gauged_39 : decode cX7_gauged 39 = .ok (.iload 6, 2) := by decide +kernel
theorem dX7_gauged_41 : decode cX7_gauged 41 = .ok (.ifCond .eq 6, 3) := by decide +kernel
theorem dX7_gauged_44 : decode cX7_gauged 44 = .ok (.iload 6, 2) := by decide +kernel
theorem dX7_gauged_46 : decode cX7_gauged 46 = .ok (.ireturn, 1) := by decide +kernel
theorem dX7_gauged_47 : decode cX7_gauged 47 = .ok (.iconst 0, 1) := by decide +kernel
theorem dX7_gauged_48 : decode cX7_gauged 48 = .ok (.istore 7, 2) := by decide +kernel
theorem dX7_gauged_50 : decode cX7_gauged 50 = .ok (.iload 7, 2) := by decide +kernel
theorem dX7_gauged_52 : decode cX7_gauged 52 = .ok (.iload 4, 2) := by decide +kernel
theorem dX7_gauged_54 : decode cX7_gauged 54 = .ok (.if_icmp .ge 32, 3) := by decide +kernel
theorem dX7_gauged_57 : decode cX7_gauged 57 = .ok (.aload_n 0, 1) := by decide +kernel
theorem dX7_gauged_58 : decode cX7_gauged 58 = .ok (.getfield 59, 3) := by decide +kernel
theorem dX7_gauged_61 : decode cX7_gauged 61 = .ok (.iload_n 1, 1) := by decide +kernel
theorem dX7_gauged_62 : decode cX7_gauged 62 = .ok (.iload_n 3, 1) := by decide +kernel
theorem dX7_gauged_63 : decode cX7_gauged 63 = .ok (.iconst 2, 1) := by decide +kernel
theorem dX7_gauged_64 : decode cX7_gauged 64 = .ok (.iload 7, 2) := by decide +kernel
theorem dX7_gauged_66 : decode cX7_gauged 66 = .ok (.imul, 1) := by decide +kernel
theorem dX7_gauged_67 : decode cX7_gauged 67 = .ok (.iadd, 1) := by decide +kernel
theorem dX7_gauged_68 : decode cX7_gauged 68 = .ok (.invokevirtual 288, 3) := by decide +kernel
theorem dX7_gauged_71 : decode cX7_gauged 71 = .ok (.invokestatic 254, 3) := by decide +kernel
theorem dX7_gauged_74 : decode cX7_gauged 74 = .ok (.ifCond .ne 6, 3) := by decide +kernel
theorem dX7_gauged_77 : decode cX7_gauged 77 = .ok (.bipush (-2), 2) := by decide +kernel
theorem dX7_gauged_79 : decode cX7_gauged 79 = .ok (.ireturn, 1) := by decide +kernel
theorem dX7_gauged_80 : decode cX7_gauged 80 = .ok (.iinc 7 1, 3) := by decide +kernel
theorem dX7_gauged_83 : decode cX7_gauged 83 = .ok (.goto (-33), 3) := by decide +kernel
theorem dX7_gauged_86 : decode cX7_gauged 86 = .ok (.aload_n 0, 1) := by decide +kernel
theorem dX7_gauged_87 : decode cX7_gauged 87 = .ok (.iload_n 1, 1) := by decide +kernel
theorem dX7_gauged_88 : decode cX7_gauged 88 = .ok (.iload_n 3, 1) := by decide +kernel
theorem dX7_gauged_89 : decode cX7_gauged 89 = .ok (.iload 4, 2) := by decide +kernel
theorem dX7_gauged_91 : decode cX7_gauged 91 = .ok (.iload 5, 2) := by decide +kernel
theorem dX7_gauged_93 : decode cX7_gauged 93 = .ok (.invokevirtual 291, 3) := by decide +kernel
theorem dX7_gauged_96 : decode cX7_gauged 96 = .ok (.ireturn, 1) := by decide +kernel
theorem dX7_sheet_0 : decode cX7_sheet 0 = .ok (.aload_n 0, 1) := by decide +kernel
theorem dX7_sheet_1 : decode cX7_sheet 1 = .ok (.getfield 59, 3) := by decide +kernel
theorem dX7_sheet_4 : decode cX7_sheet 4 = .ok (.iload_n 1, 1) := by decide +kernel
theorem dX7_sheet_5 : decode cX7_sheet 5 = .ok (.iload_n 2, 1) := by decide +kernel
theorem dX7_sheet_6 : decode cX7_sheet 6 = .ok (.iload_n 3, 1) := by decide +kernel
theorem dX7_sheet_7 : decode cX7_sheet 7 = .ok (.invokevirtual 294, 3) := by decide +kernel
theorem dX7_sheet_10 : decode cX7_sheet 10 = .ok (.ireturn, 1) := by decide +kernel
theorem dX7_drop_0 : decode cX7_drop 0 = .ok (.aload_n 0, 1) := by decide +kernel
theorem dX7_drop_1 : decode cX7_drop 1 = .ok (.getfield 59, 3) := by decide +kernel
theorem dX7_drop_4 : decode cX7_drop 4 = .ok (.iload_n 1, 1) := by decide +kernel
theorem dX7_drop_5 : decode cX7_drop 5 = .ok (.invokevirtual 296, 3) := by decide +kernel
theorem dX7_drop_8 : decode cX7_drop 8 = .ok (.ireturn, 1) := by decide +kernel
theorem dX7_item_0 : decode cX7_item 0 = .ok (.aload_n 0, 1) := by decide +kernel
theorem dX7_item_1 : decode cX7_item 1 = .ok (.getfield 59, 3) := by decide +kernel
theorem dX7_item_4 : decode cX7_item 4 = .ok (.iload_n 1, 1) := by decide +kernel
theorem dX7_item_5 : decode cX7_item 5 = .ok (.iload_n 2, 1) := by decide +kernel
theorem dX7_item_6 : decode cX7_item 6 = .ok (.iload_n 3, 1) := by decide +kernel
theorem dX7_item_7 : decode cX7_item 7 = .ok (.iconst 1, 1) := by decide +kernel
theorem dX7_item_8 : decode cX7_item 8 = .ok (.invokevirtual 285, 3) := by decide +kernel
theorem dX7_item_11 : decode cX7_item 11 = .ok (.istore 5, 2) := by decide +kernel
theorem dX7_item_13 : decode cX7_item 13 = .ok (.iload 5, 2) := by decide +kernel
theorem dX7_item_15 : decode cX7_item 15 = .ok (.ifCond .eq 6, 3) := by decide +kernel
theorem dX7_item_18 : decode cX7_item 18 = .ok (.iload 5, 2) := by decide +kernel
theorem dX7_item_20 : decode cX7_item 20 = .ok (.ireturn, 1) := by decide +kernel
theorem dX7_item_21 : decode cX7_item 21 = .ok (.aload_n 0, 1) := by decide +kernel
theorem dX7_item_22 : decode cX7_item 22 = .ok (.getfield 59, 3) := by decide +kernel
theorem dX7_item_25 : decode cX7_item 25 = .ok (.iload_n 1, 1) := by decide +kernel
theorem dX7_item_26 : decode cX7_item 26 = .ok (.iload_n 3, 1) := by decide +kernel
theorem dX7_item_27 : decode cX7_item 27 = .ok (.iload 4, 2) := by decide +kernel
theorem dX7_item_29 : decode cX7_item 29 = .ok (.invokevirtual 299, 3) := by decide +kernel
theorem dX7_item_32 : decode cX7_item 32 = .ok (.iconst 1, 1) := by decide +kernel
theorem dX7_item_33 : decode cX7_item 33 = .ok (.ireturn, 1) := by decide +kernel
theorem dX7_copy_0 : decode cX7_copy 0 = .ok (.aload_n 0, 1) := by decide +kernel
theorem dX7_copy_1 : decode cX7_copy 1 = .ok (.getfield 59, 3) := by decide +kernel
theorem dX7_copy_4 : decode cX7_copy 4 = .ok (.iload_n 1, 1) := by decide +kernel
theorem dX7_copy_5 : decode cX7_copy 5 = .ok (.iload_n 2, 1) := by decide +kernel
theorem dX7_copy_6 : decode cX7_copy 6 = .ok (.iload_n 3, 1) := by decide +kernel
theorem dX7_copy_7 : decode cX7_copy 7 = .ok (.iload 4, 2) := by decide +kernel
theorem dX7_copy_9 : decode cX7_copy 9 = .ok (.iload 5, 2) := by decide +kernel
theorem dX7_copy_11 : decode cX7_copy 11 = .ok (.invokevirtual 303, 3) := by decide +kernel
theorem dX7_copy_14 : decode cX7_copy 14 = .ok (.ireturn, 1) := by decide +kernel
theorem dX7_within_0 : decode cX7_within 0 = .ok (.iload_n 0, 1) := by decide +kernel
theorem dX7_within_1 : decode cX7_within 1 = .ok (.iload_n 1, 1) := by decide +kernel
theorem dX7_within_2 : decode cX7_within 2 = .ok (.if_icmp .lt 12, 3) := by decide +kernel
theorem dX7_within_5 : decode cX7_within 5 = .ok (.iload_n 0, 1) := by decide +kernel
theorem dX7_within_6 : decode cX7_within 6 = .ok (.iload_n 2, 1) := by decide +kernel
theorem dX7_within_7 : decode cX7_within 7 = .ok (.if_icmp .gt 7, 3) := by decide +kernel
theorem dX7_within_10 : decode cX7_within 10 = .ok (.iconst 1, 1) := by decide +kernel
theorem dX7_within_11 : decode cX7_within 11 = .ok (.goto 4, 3) := by decide +kernel
theorem dX7_within_14 : decode cX7_within 14 = .ok (.iconst 0, 1) := by decide +kernel
theorem dX7_within_15 : decode cX7_within 15 = .ok (.ireturn, 1) := by decide +kernel
theorem dX7_isMark_0 : decode cX7_isMark 0 = .ok (.iload_n 1, 1) := by decide +kernel
theorem dX7_isMark_1 : decode cX7_isMark 1 = .ok (.getstatic 307, 3) := by decide +kernel
theorem dX7_isMark_4 : decode cX7_isMark 4 = .ok (.iload_n 0, 1) := by decide +kernel
theorem dX7_isMark_5 : decode cX7_isMark 5 = .ok (.iaload, 1) := by decide +kernel
theorem dX7_isMark_6 : decode cX7_isMark 6 = .ok (.getstatic 266, 3) := by decide +kernel
theorem dX7_isMark_9 : decode cX7_isMark 9 = .ok (.iload_n 0, 1) := by decide +kernel
theorem dX7_isMark_10 : decode cX7_isMark 10 = .ok (.iaload, 1) := by decide +kernel
theorem dX7_isMark_11 : decode cX7_isMark 11 = .ok (.invokestatic 83, 3) := by decide +kernel
theorem dX7_isMark_14 : decode cX7_isMark 14 = .ok (.ireturn, 1) := by decide +kernel
theorem dX7_isPace_0 : decode cX7_isPace 0 = .ok (.iload_n 0, 1) := by decide +kernel
theorem dX7_isPace_1 : decode cX7_isPace 1 = .ok (.iconst 1, 1) := by decide +kernel
theorem dX7_isPace_2 : decode cX7_isPace 2 = .ok (.bipush 15, 2) := by decide +kernel
theorem dX7_isPace_4 : decode cX7_isPace 4 = .ok (.invokestatic 83, 3) := by decide +kernel
theorem dX7_isPace_7 : decode cX7_isPace 7 = .ok (.ireturn, 1) := by decide +kernel
theorem dX7_isMinute_0 : decode cX7_isMinute 0 = .ok (.iload_n 0, 1) := by decide +kernel
theorem dX7_isMinute_1 : decode cX7_isMinute 1 = .ok (.iconst 0, 1) := by decide +kernel
theorem dX7_isMinute_2 : decode cX7_isMinute 2 = .ok (.sipush 1439, 3) := by decide +kernel
theorem dX7_isMinute_5 : decode cX7_isMinute 5 = .ok (.invokestatic 83, 3) := by decide +kernel
theorem dX7_isMinute_8 : decode cX7_isMinute 8 = .ok (.ireturn, 1) := by decide +kernel
theorem dX7_isStart_0 : decode cX7_isStart 0 = .ok (.aload_n 0, 1) := by decide +kernel
theorem dX7_isStart_1 : decode cX7_isStart 1 = .ok (.getfield 10, 3) := by decide +kernel
theorem dX7_isStart_4 : decode cX7_isStart 4 = .ok (.iload_n 1, 1) := by decide +kernel
theorem dX7_isStart_5 : decode cX7_isStart 5 = .ok (.invokevirtual 168, 3) := by decide +kernel
theorem dX7_isStart_8 : decode cX7_isStart 8 = .ok (.ifCond .eq 14, 3) := by decide +kernel
theorem dX7_isStart_11 : decode cX7_isStart 11 = .ok (.iload_n 2, 1) := by decide +kernel
theorem dX7_isStart_12 : decode cX7_isStart 12 = .ok (.invokestatic 254, 3) := by decide +kernel
theorem dX7_isStart_15 : decode cX7_isStart 15 = .ok (.ifCond .eq 7, 3) := by decide +kernel
theorem dX7_isStart_18 : decode cX7_isStart 18 = .ok (.iconst 1, 1) := by decide +kernel
theorem dX7_isStart_19 : decode cX7_isStart 19 = .ok (.goto 4, 3) := by decide +kernel
theorem dX7_isStart_22 : decode cX7_isStart 22 = .ok (.iconst 0, 1) := by decide +kernel
theorem dX7_isStart_23 : decode cX7_isStart 23 = .ok (.ireturn, 1) := by decide +kernel
theorem dX7_refusalAt_0 : decode cX7_refusalAt 0 = .ok (.aload_n 0, 1) := by decide +kernel
theorem dX7_refusalAt_1 : decode cX7_refusalAt 1 = .ok (.iload_n 1, 1) := by decide +kernel
theorem dX7_refusalAt_2 : decode cX7_refusalAt 2 = .ok (.iload_n 2, 1) := by decide +kernel
theorem dX7_refusalAt_3 : decode cX7_refusalAt 3 = .ok (.invokevirtual 174, 3) := by decide +kernel
theorem dX7_refusalAt_6 : decode cX7_refusalAt 6 = .ok (.ifCond .eq 14, 3) := by decide +kernel
theorem dX7_refusalAt_9 : decode cX7_refusalAt 9 = .ok (.iload_n 3, 1) := by decide +kernel
theorem dX7_refusalAt_10 : decode cX7_refusalAt 10 = .ok (.iload 4, 2) := by decide +kernel
theorem dX7_refusalAt_12 : decode cX7_refusalAt 12 = .ok (.bipush 15, 2) := by decide +kernel
theorem dX7_refusalAt_14 : decode cX7_refusalAt 14 = .ok (.invokestatic 83, 3) := by decide +kernel
theorem dX7_refusalAt_17 : decode cX7_refusalAt 17 = .ok (.ifCond .ne 5, 3) := by decide +kernel
theorem dX7_refusalAt_20 : decode cX7_refusalAt 20 = .ok (.iconst (-1), 1) := by decide +kernel
theorem dX7_refusalAt_21 : decode cX7_refusalAt 21 = .ok (.ireturn, 1) := by decide +kernel
theorem dX7_refusalAt_22 : decode cX7_refusalAt 22 = .ok (.aload_n 0, 1) := by decide +kernel
theorem dX7_refusalAt_23 : decode cX7_refusalAt 23 = .ok (.getfield 10, 3) := by decide +kernel
theorem dX7_refusalAt_26 : decode cX7_refusalAt 26 = .ok (.getfield 133, 3) := by decide +kernel
theorem dX7_refusalAt_29 : decode cX7_refusalAt 29 = .ok (.ifCond .ne 6, 3) := by decide +kernel
theorem dX7_refusalAt_32 : decode cX7_refusalAt 32 = .ok (.bipush (-2), 2) := by decide +kernel
theorem dX7_refusalAt_34 : decode cX7_refusalAt 34 = .ok (.ireturn, 1) := by decide +kernel
theorem dX7_refusalAt_35 : decode cX7_refusalAt 35 = .ok (.iload_n 3, 1) := by decide +kernel
theorem dX7_refusalAt_36 : decode cX7_refusalAt 36 = .ok (.aload_n 0, 1) := by decide +kernel
theorem dX7_refusalAt_37 : decode cX7_refusalAt 37 = .ok (.getfield 10, 3) := by decide +kernel
theorem dX7_refusalAt_40 : decode cX7_refusalAt 40 = .ok (.getfield 133, 3) := by decide +kernel
theorem dX7_refusalAt_43 : decode cX7_refusalAt 43 = .ok (.if_icmp .ge 7, 3) := by decide +kernel
theorem dX7_refusalAt_46 : decode cX7_refusalAt 46 = .ok (.iconst 0, 1) := by decide +kernel
theorem dX7_refusalAt_47 : decode cX7_refusalAt 47 = .ok (.goto 4, 3) := by decide +kernel
theorem dX7_refusalAt_50 : decode cX7_refusalAt 50 = .ok (.iconst (-1), 1) := by decide +kernel
theorem dX7_refusalAt_51 : decode cX7_refusalAt 51 = .ok (.ireturn, 1) := by decide +kernel
