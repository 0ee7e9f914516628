theorem dX0_init_0 : decode cX0_init 0 = .ok (.aload_n 0, 1) := by decide +kernel
theorem dX0_init_1 : decode cX0_init 1 = .ok (.invokespecial 3, 3) := by decide +kernel
theorem dX0_init_4 : decode cX0_init 4 = .ok (.aload_n 0, 1) := by decide +kernel
theorem dX0_init_5 : decode cX0_init 5 = .ok (.bipush 6, 2) := by decide +kernel
theorem dX0_init_7 : decode cX0_init 7 = .ok (.bipush 23, 2) := by decide +kernel
theorem dX0_init_9 : decode cX0_init 9 = .ok (.multianewarray 9 2, 4) := by decide +kernel
theorem dX0_init_13 : decode cX0_init 13 = .ok (.putfield 11, 3) := by decide +kernel
theorem dX0_init_16 : decode cX0_init 16 = .ok (.aload_n 0, 1) := by decide +kernel
theorem dX0_init_17 : decode cX0_init 17 = .ok (.bipush 6, 2) := by decide +kernel
theorem dX0_init_19 : decode cX0_init 19 = .ok (.newarray .int, 2) := by decide +kernel
theorem dX0_init_21 : decode cX0_init 21 = .ok (.putfield 16, 3) := by decide +kernel
theorem dX0_init_24 : decode cX0_init 24 = .ok (.aload_n 0, 1) := by decide +kernel
theorem dX0_init_25 : decode cX0_init 25 = .ok (.bipush 6, 2) := by decide +kernel
theorem dX0_init_27 : decode cX0_init 27 = .ok (.newarray .int, 2) := by decide +kernel
theorem dX0_init_29 : decode cX0_init 29 = .ok (.putfield 20, 3) := by decide +kernel
theorem dX0_init_32 : decode cX0_init 32 = .ok (.aload_n 0, 1) := by decide +kernel
theorem dX0_init_33 : decode cX0_init 33 = .ok (.iconst 0, 1) := by decide +kernel
theorem dX0_init_34 : decode cX0_init 34 = .ok (.putfield 23, 3) := by decide +kernel
theorem dX0_init_37 : decode cX0_init 37 = .ok (.aload_n 0, 1) := by decide +kernel
theorem dX0_init_38 : decode cX0_init 38 = .ok (.iconst 0, 1) := by decide +kernel
theorem dX0_init_39 : decode cX0_init 39 = .ok (.putfield 27, 3) := by decide +kernel
theorem dX0_init_42 : decode cX0_init 42 = .ok (.aload_n 0, 1) := by decide +kernel
theorem dX0_init_43 : decode cX0_init 43 = .ok (.iconst 0, 1) := by decide +kernel
theorem dX0_init_44 : decode cX0_init 44 = .ok (.putfield 30, 3) := by decide +kernel
theorem dX0_init_47 : decode cX0_init 47 = .ok (.return_, 1) := by decide +kernel
theorem dX0_startsOf_0 : decode cX0_startsOf 0 = .ok (.aload_n 0, 1) := by decide +kernel
theorem dX0_startsOf_1 : decode cX0_startsOf 1 = .ok (.getfield 11, 3) := by decide +kernel
theorem dX0_startsOf_4 : decode cX0_startsOf 4 = .ok (.iload_n 1, 1) := by decide +kernel
theorem dX0_startsOf_5 : decode cX0_startsOf 5 = .ok (.aaload, 1) := by decide +kernel
theorem dX0_startsOf_6 : decode cX0_startsOf 6 = .ok (.areturn, 1) := by decide +kernel
theorem dX0_arrange_0 : decode cX0_arrange 0 = .ok (.aload_n 0, 1) := by decide +kernel
theorem dX0_arrange_1 : decode cX0_arrange 1 = .ok (.iconst 0, 1) := by decide +kernel
theorem dX0_arrange_2 : decode cX0_arrange 2 = .ok (.putfield 23, 3) := by decide +kernel
theorem dX0_arrange_5 : decode cX0_arrange 5 = .ok (.aload_n 0, 1) := by decide +kernel
theorem dX0_arrange_6 : decode cX0_arrange 6 = .ok (.iload_n 2, 1) := by decide +kernel
theorem dX0_arrange_7 : decode cX0_arrange 7 = .ok (.putfield 30, 3) := by decide +kernel
theorem dX0_arrange_10 : decode cX0_arrange 10 = .ok (.aload_n 0, 1) := by decide +kernel
theorem dX0_arrange_11 : decode cX0_arrange 11 = .ok (.ldc 35, 2) := by decide +kernel
theorem dX0_arrange_13 : decode cX0_arrange 13 = .ok (.putfield 27, 3) := by decide +kernel
theorem dX0_arrange_16 : decode cX0_arrange 16 = .ok (.aload_n 0, 1) := by decide +kernel
theorem dX0_arrange_17 : decode cX0_arrange 17 = .ok (.iconst 0, 1) := by decide +kernel
theorem dX0_arrange_18 : decode cX0_arrange 18 = .ok (.iload_n 1, 1) := by decide +kernel
theorem dX0_arrange_19 : decode cX0_arrange 19 = .ok (.iconst 0, 1) := by decide +kernel
theorem dX0_arrange_20 : decode cX0_arrange 20 = .ok (.iconst 0, 1) := by decide +kernel
theorem dX0_arrange_21 : decode cX0_arrange 21 = .ok (.invokevirtual 36, 3) := by decide +kernel
theorem dX0_arrange_24 : decode cX0_arrange 24 = .ok (.aload_n 0, 1) := by decide +kernel
theorem dX0_arrange_25 : decode cX0_arrange 25 = .ok (.getfield 23, 3) := by decide +kernel
theorem dX0_arrange_28 : decode cX0_arrange 28 = .ok (.ifCond .ne 8, 3) := by decide +kernel
theorem dX0_arrange_31 : decode cX0_arrange 31 = .ok (.bipush (-4), 2) := by decide +kernel
theorem dX0_arrange_33 : decode cX0_arrange 33 = .ok (.goto 7, 3) := by decide +kernel
theorem dX0_arrange_36 : decode cX0_arrange 36 = .ok (.aload_n 0, 1) := by decide +kernel
theorem dX0_arrange_37 : decode cX0_arrange 37 = .ok (.getfield 27, 3) := by decide +kernel
theorem dX0_arrange_40 : decode cX0_arrange 40 = .ok (.ireturn, 1) := by decide +kernel
theorem dX0_goes_0 : decode cX0_goes 0 = .ok (.iload_n 1, 1) := by decide +kernel
theorem dX0_goes_1 : decode cX0_goes 1 = .ok (.ifCond .lt 20, 3) := by decide +kernel
theorem dX0_goes_4 : decode cX0_goes 4 = .ok (.iload_n 1, 1) := by decide +kernel
theorem dX0_goes_5 : decode cX0_goes 5 = .ok (.aload_n 0, 1) := by decide +kernel
theorem dX0_goes_6 : decode cX0_goes 6 = .ok (.getfield 23, 3) := by decide +kernel
theorem dX0_goes_9 : decode cX0_goes 9 = .ok (.if_icmp .ge 12, 3) := by decide +kernel
theorem dX0_goes_12 : decode cX0_goes 12 = .ok (.aload_n 0, 1) := by decide +kernel
theorem dX0_goes_13 : decode cX0_goes 13 = .ok (.getfield 20, 3) := by decide +kernel
theorem dX0_goes_16 : decode cX0_goes 16 = .ok (.iload_n 1, 1) := by decide +kernel
theorem dX0_goes_17 : decode cX0_goes 17 = .ok (.iaload, 1) := by decide +kernel
theorem dX0_goes_18 : decode cX0_goes 18 = .ok (.goto 5, 3) := by decide +kernel
theorem dX0_goes_21 : decode cX0_goes 21 = .ok (.bipush (-4), 2) := by decide +kernel
theorem dX0_goes_23 : decode cX0_goes 23 = .ok (.ireturn, 1) := by decide +kernel
theorem dX0_tryNext_0 : decode cX0_tryNext 0 = .ok (.iload_n 2, 1) := by decide +kernel
theorem dX0_tryNext_1 : decode cX0_tryNext 1 = .ok (.ifCond .ne 11, 3) := by decide +kernel
theorem dX0_tryNext_4 : decode cX0_tryNext 4 = .ok (.aload_n 0, 1) := by decide +kernel
theorem dX0_tryNext_5 : decode cX0_tryNext 5 = .ok (.iload_n 1, 1) := by decide +kernel
theorem dX0_tryNext_6 : decode cX0_tryNext 6 = .ok (.iload 4, 2) := by decide +kernel
theorem dX0_tryNext_8 : decode cX0_tryNext 8 = .ok (.invokevirtual 40, 3) := by decide +kernel
theorem dX0_tryNext_11 : decode cX0_tryNext 11 = .ok (.return_, 1) := by decide +kernel
theorem dX0_tryNext_12 : decode cX0_tryNext 12 = .ok (.iload_n 1, 1) := by decide +kernel
theorem dX0_tryNext_13 : decode cX0_tryNext 13 = .ok (.bipush 6, 2) := by decide +kernel
theorem dX0_tryNext_15 : decode cX0_tryNext 15 = .ok (.if_icmp .lt 4, 3) := by decide +kernel
theorem dX0_tryNext_18 : decode cX0_tryNext 18 = .ok (.return_, 1) := by decide +kernel
theorem dX0_tryNext_19 : decode cX0_tryNext 19 = .ok (.iconst 0, 1) := by decide +kernel
theorem dX0_tryNext_20 : decode cX0_tryNext 20 = .ok (.istore 5, 2) := by decide +kernel
theorem dX0_tryNext_22 : decode cX0_tryNext 22 = .ok (.iload 5, 2) := by decide +kernel
theorem dX0_tryNext_24 : decode cX0_tryNext 24 = .ok (.bipush 6, 2) := by decide +kernel
theorem dX0_tryNext_26 : decode cX0_tryNext 26 = .ok (.if_icmp .ge 78, 3) := by decide +kernel
theorem dX0_tryNext_29 : decode cX0_tryNext 29 = .ok (.iload_n 2, 1) := by decide +kernel
theorem dX0_tryNext_30 : decode cX0_tryNext 30 = .ok (.iload 5, 2) := by decide +kernel
theorem dX0_tryNext_32 : decode cX0_tryNext 32 = .ok (.ishr, 1) := by decide +kernel
theorem dX0_tryNext_33 : decode cX0_tryNext 33 = .ok (.iconst 1, 1) := by decide +kernel
theorem dX0_tryNext_34 : decode cX0_tryNext 34 = .ok (.iand, 1) := by decide +kernel
theorem dX0_tryNext_35 : decode cX0_tryNext 35 = .ok (.ifCond .eq 17, 3) := by decide +kernel
theorem dX0_tryNext_38 : decode cX0_tryNext 38 = .ok (.aload_n 0, 1) := by decide +kernel
theorem dX0_tryNext_39 : decode cX0_tryNext 39 = .ok (.getfield 11, 3) := by decide +kernel
theorem dX0_tryNext_42 : decode cX0_tryNext 42 = .ok (.iload 5, 2) := by decide +kernel
theorem dX0_tryNext_44 : decode cX0_tryNext 44 = .ok (.aaload, 1) := by decide +kernel
theorem dX0_tryNext_45 : decode cX0_tryNext 45 = .ok (.iload_n 3, 1) := by decide +kernel
theorem dX0_tryNext_46 : decode cX0_tryNext 46 = .ok (.invokestatic 44, 3) := by decide +kernel
theorem dX0_tryNext_49 : decode cX0_tryNext 49 = .ok (.goto 5, 3) := by decide +kernel
theorem dX0_tryNext_52 : decode cX0_tryNext 52 = .ok (.bipush (-4), 2) := by decide +kernel
theorem dX0_tryNext_54 : decode cX0_tryNext 54 = .ok (.istore 6, 2) := by decide +kernel
theorem dX0_tryNext_56 : decode cX0_tryNext 56 = .ok (.iload 6, 2) := by decide +kernel
theorem dX0_tryNext_58 : decode cX0_tryNext 58 = .ok (.bipush (-4), 2) := by decide +kernel
theorem dX0_tryNext_60 : decode cX0_tryNext 60 = .ok (.if_icmp .eq 38, 3) := by decide +kernel
theorem dX0_tryNext_63 : decode cX0_tryNext 63 = .ok (.aload_n 0, 1) := by decide +kernel
theorem dX0_tryNext_64 : decode cX0_tryNext 64 = .ok (.getfield 16, 3) := by decide +kernel
theorem dX0_tryNext_67 : decode cX0_tryNext 67 = .ok (.iload_n 1, 1) := by decide +kernel
theorem dX0_tryNext_68 : decode cX0_tryNext 68 = .ok (.iload 5, 2) := by decide +kernel
theorem dX0_tryNext_70 : decode cX0_tryNext 70 = .ok (.iastore, 1) := by decide +kernel
theorem dX0_tryNext_71 : decode cX0_tryNext 71 = .ok (.aload_n 0, 1) := by decide +kernel
theorem dX0_tryNext_72 : decode cX0_tryNext 72 = .ok (.iload_n 1, 1) := by decide +kernel
theorem dX0_tryNext_73 : decode cX0_tryNext 73 = .ok (.iconst 1, 1) := by decide +kernel
theorem dX0_tryNext_74 : decode cX0_tryNext 74 = .ok (.iadd, 1) := by decide +kernel
theorem dX0_tryNext_75 : decode cX0_tryNext 75 = .ok (.iload_n 2, 1) := by decide +kernel
theorem dX0_tryNext_76 : decode cX0_tryNext 76 = .ok (.iconst 1, 1) := by decide +kernel
theorem dX0_tryNext_77 : decode cX0_tryNext 77 = .ok (.iload 5, 2) := by decide +kernel
theorem dX0_tryNext_79 : decode cX0_tryNext 79 = .ok (.ishl, 1) := by decide +kernel
theorem dX0_tryNext_80 : decode cX0_tryNext 80 = .ok (.iconst (-1), 1) := by decide +kernel
theorem dX0_tryNext_81 : decode cX0_tryNext 81 = .ok (.ixor, 1) := by decide +kernel
theorem dX0_tryNext_82 : decode cX0_tryNext 82 = .ok (.iand, 1) := by decide +kernel
theorem dX0_tryNext_83 : decode cX0_tryNext 83 = .ok (.iload 6, 2) := by decide +kernel
theorem dX0_tryNext_85 : decode cX0_tryNext 85 = .ok (.aload_n 0, 1) := by decide +kernel
theorem dX0_tryNext_86 : decode cX0_tryNext 86 = .ok (.getfield 30, 3) := by decide +kernel
theorem dX0_tryNext_89 : decode cX0_tryNext 89 = .ok (.iadd, 1) := by decide +kernel
theorem dX0_tryNext_90 : decode cX0_tryNext 90 = .ok (.iload 4, 2) := by decide +kernel
theorem dX0_tryNext_92 : decode cX0_tryNext 92 = .ok (.iload 6, 2) := by decide +kernel
theorem dX0_tryNext_94 : decode cX0_tryNext 94 = .ok (.iadd, 1) := by decide +kernel
theorem dX0_tryNext_95 : decode cX0_tryNext 95 = .ok (.invokevirtual 36, 3) := by decide +kernel
theorem dX0_tryNext_98 : decode cX0_tryNext 98 = .ok (.iinc 5 1, 3) := by decide +kernel
theorem dX0_tryNext_101 : decode cX0_tryNext 101 = .ok (.goto (-79), 3) := by decide +kernel
theorem dX0_tryNext_104 : decode cX0_tryNext 104 = .ok (.return_, 1) := by decide +kernel
theorem dX0_keepBetter_0 : decode cX0_keepBetter 0 = .ok (.iload_n 2, 1) := by decide +kernel
theorem dX0_keepBetter_1 : decode cX0_keepBetter 1 = .ok (.aload_n 0, 1) := by decide +kernel
theorem dX0_keepBetter_2 : decode cX0_keepBetter 2 = .ok (.getfield 27, 3) := by decide +kernel
theorem dX0_keepBetter_5 : decode cX0_keepBetter 5 = .ok (.if_icmp .ge 28, 3) := by decide +kernel
theorem dX0_keepBetter_8 : decode cX0_keepBetter 8 = .ok (.aload_n 0, 1) := by decide +kernel
theorem dX0_keepBetter_9 : decode cX0_keepBetter 9 = .ok (.iload_n 2, 1) := by decide +kernel
theorem dX0_keepBetter_10 : decode cX0_keepBetter 10 = .ok (.putfield 27, 3) := by decide +kernel
theorem dX0_keepBetter_13 : decode cX0_keepBetter 13 = .ok (.aload_n 0, 1) := by decide +kernel
theorem dX0_keepBetter_14 : decode cX0_keepBetter 14 = .ok (.iload_n 1, 1) := by decide +kernel
theorem dX0_keepBetter_15 : decode cX0_keepBetter 15 = .ok (.putfield 23, 3) := by decide +kernel
theorem dX0_keepBetter_18 : decode cX0_keepBetter 18 = .ok (.aload_n 0, 1) := by decide +kernel
theorem dX0_keepBetter_19 : decode cX0_keepBetter 19 = .ok (.getfield 16, 3) := by decide +kernel
theorem dX0_keepBetter_22 : decode cX0_keepBetter 22 = .ok (.iconst 0, 1) := by decide +kernel
theorem dX0_keepBetter_23 : decode cX0_keepBetter 23 = .ok (.aload_n 0, 1) := by decide +kernel
theorem dX0_keepBetter_24 : decode cX0_keepBetter 24 = .ok (.getfield 20, 3) := by decide +kernel
theorem dX0_keepBetter_27 : decode cX0_keepBetter 27 = .ok (.iconst 0, 1) := by decide +kernel
theorem dX0_keepBetter_28 : decode cX0_keepBetter 28 = .ok (.bipush 6, 2) := by decide +kernel
theorem dX0_keepBetter_30 : decode cX0_keepBetter 30 = .ok (.invokestatic 48, 3) := by decide +kernel
theorem dX0_keepBetter_33 : decode cX0_keepBetter 33 = .ok (.return_, 1) := by decide +kernel
theorem dX1_init_0 : decode cX1_init 0 = .ok (.aload_n 0, 1) := by decide +kernel
theorem dX1_init_1 : decode cX1_init 1 = .ok (.invokespecial 3, 3) := by decide +kernel
theorem dX1_init_4 : decode cX1_init 4 = .ok (.aload_n 0, 1) := by decide +kernel
theorem dX1_init_5 : decode cX1_init 5 = .ok (.iconst 0, 1) := by decide +kernel
theorem dX1_init_6 : decode cX1_init 6 = .ok (.putfield 9, 3) := by decide +kernel
theorem dX1_init_9 : decode cX1_init 9 = .ok (.aload_n 0, 1) := by decide +kernel
theorem dX1_init_10 : decode cX1_init 10 = .ok (.iconst 0, 1) := by decide +kernel
theorem dX1_init_11 : decode cX1_init 11 = .ok (.putfield 15, 3) := by decide +kernel
theorem dX1_init_14 : decode cX1_init 14 = .ok (.aload_n 0, 1) := by decide +kernel
theorem dX1_init_15 : decode cX1_init 15 = .ok (.bipush 24, 2) := by decide +kernel
theorem dX1_init_17 : decode cX1_init 17 = .ok (.newarray .int, 2) := by decide +kernel
theorem dX1_init_19 : decode cX1_init 19 = .ok (.putfield 18, 3) := by decide +kernel
theorem dX1_init_22 : decode cX1_init 22 = .ok (.aload_n 0, 1) := by decide +kernel
theorem dX1_init_23 : decode cX1_init 23 = .ok (.iconst 5, 1) := by decide +kernel
theorem dX1_init_24 : decode cX1_init 24 = .ok (.newarray .int, 2) := by decide +kernel
theorem dX1_init_26 : decode cX1_init 26 = .ok (.dup, 1) := by decide +kernel
theorem dX1_init_27 : decode cX1_init 27 = .ok (.iconst 0, 1) := by decide +kernel
theorem dX1_init_28 : decode cX1_init 28 = .ok (.iconst 0, 1) := by decide +kernel
theorem dX1_init_29 : decode cX1_init 29 = .ok (.iastore, 1) := by decide +kernel
theorem dX1_init_30 : decode cX1_init 30 = .ok (.dup, 1) := by decide +kernel
theorem dX1_init_31 : decode cX1_init 31 = .ok (.iconst 1, 1) := by decide +kernel
theorem dX1_init_32 : decode cX1_init 32 = .ok (.iconst 0, 1) := by decide +kernel
theorem dX1_init_33 : decode cX1_init 33 = .ok (.iastore, 1) := by decide +kernel
theorem dX1_init_34 : decode cX1_init 34 = .ok (.dup, 1) := by decide +kernel
theorem dX1_init_35 : decode cX1_init 35 = .ok (.iconst 2, 1) := by decide +kernel
theorem dX1_init_36 : decode cX1_init 36 = .ok (.iconst 0, 1) := by decide +kernel
theorem dX1_init_37 : decode cX1_init 37 = .ok (.iastore, 1) := by decide +kernel
theorem dX1_init_38 : decode cX1_init 38 = .ok (.dup, 1) := by decide +kernel
theorem dX1_init_39 : decode cX1_init 39 = .ok (.iconst 3, 1) := by decide +kernel
theorem dX1_init_40 : decode cX1_init 40 = .ok (.iconst 0, 1) := by decide +kernel
theorem dX1_init_41 : decode cX1_init 41 = .ok (.iastore, 1) := by decide +kernel
theorem dX1_init_42 : decode cX1_init 42 = .ok (.dup, 1) := by decide +kernel
theorem dX1_init_43 : decode cX1_init 43 = .ok (.iconst 4, 1) := by decide +kernel
theorem dX1_init_44 : decode cX1_init 44 = .ok (.iconst 5, 1) := by decide +kernel
theorem dX1_init_45 : decode cX1_init 45 = .ok (.iastore, 1) := by decide +kernel
theorem dX1_init_46 : decode cX1_init 46 = .ok (.putfield 22, 3) := by decide +kernel
theorem dX1_init_49 : decode cX1_init 49 = .ok (.aload_n 0, 1) := by decide +kernel
theorem dX1_init_50 : decode cX1_init 50 = .ok (.bipush 96, 2) := by decide +kernel
theorem dX1_init_52 : decode cX1_init 52 = .ok (.newarray .int, 2) := by decide +kernel
theorem dX1_init_54 : decode cX1_init 54 = .ok (.putfield 25, 3) := by decide +kernel
theorem dX1_init_57 : decode cX1_init 57 = .ok (.aload_n 0, 1) := by decide +kernel
theorem dX1_init_58 : decode cX1_init 58 = .ok (.bipush 18, 2) := by decide +kernel
theorem dX1_init_60 : decode cX1_init 60 = .ok (.newarray .int, 2) := by decide +kernel
theorem dX1_init_62 : decode cX1_init 62 = .ok (.putfield 28, 3) := by decide +kernel
theorem dX1_init_65 : decode cX1_init 65 = .ok (.return_, 1) := by decide +kernel
theorem dX1_take_0 : decode cX1_take 0 = .ok (.aload_n 0, 1) := by decide +kernel
theorem dX1_take_1 : decode cX1_take 1 = .ok (.aload_n 1, 1) := by decide +kernel
theorem dX1_take_2 : decode cX1_take 2 = .ok (.getfield 9, 3) := by decide +kernel
theorem dX1_take_5 : decode cX1_take 5 = .ok (.putfield 9, 3) := by decide +kernel
theorem dX1_take_8 : decode cX1_take 8 = .ok (.aload_n 0, 1) := by decide +kernel
theorem dX1_take_9 : decode cX1_take 9 = .ok (.aload_n 1, 1) := by decide +kernel
theorem dX1_take_10 : decode cX1_take 10 = .ok (.getfield 15, 3) := by decide +kernel
theorem dX1_take_13 : decode cX1_take 13 = .ok (.putfield 15, 3) := by decide +kernel
theorem dX1_take_16 : decode cX1_take 16 = .ok (.aload_n 1, 1) := by decide +kernel
theorem dX1_take_17 : decode cX1_take 17 = .ok (.getfield 18, 3) := by decide +kernel
theorem dX1_take_20 : decode cX1_take 20 = .ok (.iconst 0, 1) := by decide +kernel
theorem dX1_take_21 : decode cX1_take 21 = .ok (.aload_n 0, 1) := by decide +kernel
theorem dX1_take_22 : decode cX1_take 22 = .ok (.getfield 18, 3) := by decide +kernel
theorem dX1_take_25 : decode cX1_take 25 = .ok (.iconst 0, 1) := by decide +kernel
theorem dX1_take_26 : decode cX1_take 26 = .ok (.aload_n 0, 1) := by decide +kernel
theorem dX1_take_27 : decode cX1_take 27 = .ok (.getfield 18, 3) := by decide +kernel
theorem dX1_take_30 : decode cX1_take 30 = .ok (.arraylength, 1) := by decide +kernel
theorem dX1_take_31 : decode cX1_take 31 = .ok (.invokestatic 31, 3) := by decide +kernel
theorem dX1_take_34 : decode cX1_take 34 = .ok (.aload_n 1, 1) := by decide +kernel
theorem dX1_take_35 : decode cX1_take 35 = .ok (.getfield 22, 3) := by decide +kernel
theorem dX1_take_38 : decode cX1_take 38 = .ok (.iconst 0, 1) := by decide +kernel
theorem dX1_take_39 : decode cX1_take 39 = .ok (.aload_n 0, 1) := by decide +kernel
theorem dX1_take_40 : decode cX1_take 40 = .ok (.getfield 22, 3) := by decide +kernel
theorem dX1_take_43 : decode cX1_take 43 = .ok (.iconst 0, 1) := by decide +kernel
theorem dX1_take_44 : decode cX1_take 44 = .ok (.aload_n 0, 1) := by decide +kernel
theorem dX1_take_45 : decode cX1_take 45 = .ok (.getfield 22, 3) := by decide +kernel
theorem dX1_take_48 : decode cX1_take 48 = .ok (.arraylength, 1) := by decide +kernel
theorem dX1_take_49 : decode cX1_take 49 = .ok (.invokestatic 31, 3) := by decide +kernel
theorem dX1_take_52 : decode cX1_take 52 = .ok (.aload_n 1, 1) := by decide +kernel
theorem dX1_take_53 : decode cX1_take 53 = .ok (.getfield 25, 3) := by decide +kernel
theorem dX1_take_56 : decode cX1_take 56 = .ok (.iconst 0, 1) := by decide +kernel
theorem dX1_take_57 : decode cX1_take 57 = .ok (.aload_n 0, 1) := by decide +kernel
theorem dX1_take_58 : decode cX1_take 58 = .ok (.getfield 25, 3) := by decide +kernel
theorem dX1_take_61 : decode cX1_take 61 = .ok (.iconst 0, 1) := by decide +kernel
theorem dX1_take_62 : decode cX1_take 62 = .ok (.aload_n 0, 1) := by decide +kernel
theorem dX1_take_63 : decode cX1_take 63 = .ok (.getfield 25, 3) := by decide +kernel
theorem dX1_take_66 : decode cX1_take 66 = .ok (.arraylength, 1) := by decide +kernel
theorem dX1_take_67 : decode cX1_take 67 = .ok (.invokestatic 31, 3) := by decide +kernel
theorem dX1_take_70 : decode cX1_take 70 = .ok (.aload_n 1, 1) := by decide +kernel
theorem dX1_take_71 : decode cX1_take 71 = .ok (.getfield 28, 3) := by decide +kernel
theorem dX1_take_74 : decode cX1_take 74 = .ok (.iconst 0, 1) := by decide +kernel
theorem dX1_take_75 : decode cX1_take 75 = .ok (.aload_n 0, 1) := by decide +kernel
theorem dX1_take_76 : decode cX1_take 76 = .ok (.getfield 28, 3) := by decide +kernel
theorem dX1_take_79 : decode cX1_take 79 = .ok (.iconst 0, 1) := by decide +kernel
theorem dX1_take_80 : decode cX1_take 80 = .ok (.aload_n 0, 1) := by decide +kernel
theorem dX1_take_81 : decode cX1_take 81 = .ok (.getfield 28, 3) := by decide +kernel
theorem dX1_take_84 : decode cX1_take 84 = .ok (.arraylength, 1) := by decide +kernel
theorem dX1_take_85 : decode cX1_take 85 = .ok (.invokestatic 31, 3) := by decide +kernel
theorem dX1_take_88 : decode cX1_take 88 = .ok (.return_, 1) := by decide +kernel
theorem dX1_hasMile_0 : decode cX1_hasMile 0 = .ok (.iload_n 1, 1) := by decide +kernel
theorem dX1_hasMile_1 : decode cX1_hasMile 1 = .ok (.ifCond .lt 15, 3) := by decide +kernel
theorem dX1_hasMile_4 : decode cX1_hasMile 4 = .ok (.iload_n 1, 1) := by decide +kernel
theorem dX1_hasMile_5 : decode cX1_hasMile 5 = .ok (.aload_n 0, 1) := by decide +kernel
theorem dX1_hasMile_6 : decode cX1_hasMile 6 = .ok (.getfield 9, 3) := by decide +kernel
theorem dX1_hasMile_9 : decode cX1_hasMile 9 = .ok (.if_icmp .ge 7, 3) := by decide +kernel
theorem dX1_hasMile_12 : decode cX1_hasMile 12 = .ok (.iconst 1, 1) := by decide +kernel
theorem dX1_hasMile_13 : decode cX1_hasMile 13 = .ok (.goto 4, 3) := by decide +kernel
theorem dX1_hasMile_16 : decode cX1_hasMile 16 = .ok (.iconst 0, 1) := by decide +kernel
theorem dX1_hasMile_17 : decode cX1_hasMile 17 = .ok (.ireturn, 1) := by decide +kernel
theorem dX1_hasShip_0 : decode cX1_hasShip 0 = .ok (.iload_n 1, 1) := by decide +kernel
theorem dX1_hasShip_1 : decode cX1_hasShip 1 = .ok (.ifCond .lt 15, 3) := by decide +kernel
theorem dX1_hasShip_4 : decode cX1_hasShip 4 = .ok (.iload_n 1, 1) := by decide +kernel
theorem dX1_hasShip_5 : decode cX1_hasShip 5 = .ok (.aload_n 0, 1) := by decide +kernel
theorem dX1_hasShip_6 : decode cX1_hasShip 6 = .ok (.getfield 15, 3) := by decide +kernel
theorem dX1_hasShip_9 : decode cX1_hasShip 9 = .ok (.if_icmp .ge 7, 3) := by decide +kernel
theorem dX1_hasShip_12 : decode cX1_hasShip 12 = .ok (.iconst 1, 1) := by decide +kernel
theorem dX1_hasShip_13 : decode cX1_hasShip 13 = .ok (.goto 4, 3) := by decide +kernel
theorem dX1_hasShip_16 : decode cX1_hasShip 16 = .ok (.iconst 0, 1) := by decide +kernel
theorem dX1_hasShip_17 : decode cX1_hasShip 17 = .ok (.ireturn, 1) := by decide +kernel
theorem dX1_markOf_0 : decode cX1_markOf 0 = .ok (.aload_n 0, 1) := by decide +kernel
theorem dX1_markOf_1 : decode cX1_markOf 1 = .ok (.getfield 25, 3) := by decide +kernel
theorem dX1_markOf_4 : decode cX1_markOf 4 = .ok (.iload_n 1, 1) := by decide +kernel
theorem dX1_markOf_5 : decode cX1_markOf 5 = .ok (.bipush 6, 2) := by decide +kernel
theorem dX1_markOf_7 : decode cX1_markOf 7 = .ok (.imul, 1) := by decide +kernel
theorem dX1_markOf_8 : decode cX1_markOf 8 = .ok (.iload_n 2, 1) := by decide +kernel
theorem dX1_markOf_9 : decode cX1_markOf 9 = .ok (.iadd, 1) := by decide +kernel
theorem dX1_markOf_10 : decode cX1_markOf 10 = .ok (.iaload, 1) := by decide +kernel
theorem dX1_markOf_11 : decode cX1_markOf 11 = .ok (.ireturn, 1) := by decide +kernel
theorem dX1_mark_0 : decode cX1_mark 0 = .ok (.aload_n 0, 1) := by decide +kernel
theorem dX1_mark_1 : decode cX1_mark 1 = .ok (.iload_n 1, 1) := by decide +kernel
theorem dX1_mark_2 : decode cX1_mark 2 = .ok (.iload_n 2, 1) := by decide +kernel
theorem dX1_mark_3 : decode cX1_mark 3 = .ok (.invokevirtual 37, 3) := by decide +kernel
theorem dX1_mark_6 : decode cX1_mark 6 = .ok (.istore 4, 2) := by decide +kernel
theorem dX1_mark_8 : decode cX1_mark 8 = .ok (.aload_n 0, 1) := by decide +kernel
theorem dX1_mark_9 : decode cX1_mark 9 = .ok (.getfield 25, 3) := by decide +kernel
theorem dX1_mark_12 : decode cX1_mark 12 = .ok (.iload_n 1, 1) := by decide +kernel
theorem dX1_mark_13 : decode cX1_mark 13 = .ok (.bipush 6, 2) := by decide +kernel
theorem dX1_mark_15 : decode cX1_mark 15 = .ok (.imul, 1) := by decide +kernel
theorem dX1_mark_16 : decode cX1_mark 16 = .ok (.iload_n 2, 1) := by decide +kernel
theorem dX1_mark_17 : decode cX1_mark 17 = .ok (.iadd, 1) := by decide +kernel
theorem dX1_mark_18 : decode cX1_mark 18 = .ok (.iload_n 3, 1) := by decide +kernel
theorem dX1_mark_19 : decode cX1_mark 19 = .ok (.iastore, 1) := by decide +kernel
theorem dX1_mark_20 : decode cX1_mark 20 = .ok (.iload 4, 2) := by decide +kernel
theorem dX1_mark_22 : decode cX1_mark 22 = .ok (.ireturn, 1) := by decide +kernel
theorem dX1_hullOf_0 : decode cX1_hullOf 0 = .ok (.aload_n 0, 1) := by decide +kernel
theorem dX1_hullOf_1 : decode cX1_hullOf 1 = .ok (.getfield 28, 3) := by decide +kernel
theorem dX1_hullOf_4 : decode cX1_hullOf 4 = .ok (.iload_n 1, 1) := by decide +kernel
theorem dX1_hullOf_5 : decode cX1_hullOf 5 = .ok (.iconst 3, 1) := by decide +kernel
theorem dX1_hullOf_6 : decode cX1_hullOf 6 = .ok (.imul, 1) := by decide +kernel
theorem dX1_hullOf_7 : decode cX1_hullOf 7 = .ok (.iload_n 2, 1) := by decide +kernel
theorem dX1_hullOf_8 : decode cX1_hullOf 8 = .ok (.iadd, 1) := by decide +kernel
theorem dX1_hullOf_9 : decode cX1_hullOf 9 = .ok (.iaload, 1) := by decide +kernel
theorem dX1_hullOf_10 : decode cX1_hullOf 10 = .ok (.ireturn, 1) := by decide +kernel
theorem dX1_addMile_0 : decode cX1_addMile 0 = .ok (.aload_n 0, 1) := by decide +kernel
theorem dX1_addMile_1 : decode cX1_addMile 1 = .ok (.getfield 9, 3) := by decide +kernel
theorem dX1_addMile_4 : decode cX1_addMile 4 = .ok (.bipush 16, 2) := by decide +kernel
theorem dX1_addMile_6 : decode cX1_addMile 6 = .ok (.if_icmp .lt 6, 3) := by decide +kernel
theorem dX1_addMile_9 : decode cX1_addMile 9 = .ok (.bipush (-3), 2) := by decide +kernel
theorem dX1_addMile_11 : decode cX1_addMile 11 = .ok (.ireturn, 1) := by decide +kernel
theorem dX1_addMile_12 : decode cX1_addMile 12 = .ok (.aload_n 0, 1) := by decide +kernel
theorem dX1_addMile_13 : decode cX1_addMile 13 = .ok (.aload_n 0, 1) := by decide +kernel
theorem dX1_addMile_14 : decode cX1_addMile 14 = .ok (.getfield 9, 3) := by decide +kernel
theorem dX1_addMile_17 : decode cX1_addMile 17 = .ok (.iconst 0, 1) := by decide +kernel
theorem dX1_addMile_18 : decode cX1_addMile 18 = .ok (.iload_n 1, 1) := by decide +kernel
theorem dX1_addMile_19 : decode cX1_addMile 19 = .ok (.invokevirtual 41, 3) := by decide +kernel
theorem dX1_addMile_22 : decode cX1_addMile 22 = .ok (.pop, 1) := by decide +kernel
theorem dX1_addMile_23 : decode cX1_addMile 23 = .ok (.aload_n 0, 1) := by decide +kernel
theorem dX1_addMile_24 : decode cX1_addMile 24 = .ok (.aload_n 0, 1) := by decide +kernel
theorem dX1_addMile_25 : decode cX1_addMile 25 = .ok (.getfield 9, 3) := by decide +kernel
theorem dX1_addMile_28 : decode cX1_addMile 28 = .ok (.iconst 1, 1) := by decide +kernel
theorem dX1_addMile_29 : decode cX1_addMile 29 = .ok (.iload_n 2, 1) := by decide +kernel
theorem dX1_addMile_30 : decode cX1_addMile 30 = .ok (.invokevirtual 41, 3) := by decide +kernel
theorem dX1_addMile_33 : decode cX1_addMile 33 = .ok (.pop, 1) := by decide +kernel
theorem dX1_addMile_34 : decode cX1_addMile 34 = .ok (.aload_n 0, 1) := by decide +kernel
theorem dX1_addMile_35 : decode cX1_addMile 35 = .ok (.aload_n 0, 1) := by decide +kernel
theorem dX1_addMile_36 : decode cX1_addMile 36 = .ok (.getfield 9, 3) := by decide +kernel
theorem dX1_addMile_39 : decode cX1_addMile 39 = .ok (.iconst 2, 1) := by decide +kernel
theorem dX1_addMile_40 : decode cX1_addMile 40 = .ok (.bipush 9, 2) := by decide +kernel
theorem dX1_addMile_42 : decode cX1_addMile 42 = .ok (.invokevirtual 41, 3) := by decide +kernel
theorem dX1_addMile_45 : decode cX1_addMile 45 = .ok (.pop, 1) := by decide +kernel
theorem dX1_addMile_46 : decode cX1_addMile 46 = .ok (.aload_n 0, 1) := by decide +kernel
theorem dX1_addMile_47 : decode cX1_addMile 47 = .ok (.aload_n 0, 1) := by decide +kernel
theorem dX1_addMile_48 : decode cX1_addMile 48 = .ok (.getfield 9, 3) := by decide +kernel
theorem dX1_addMile_51 : decode cX1_addMile 51 = .ok (.iconst 3, 1) := by decide +kernel
theorem dX1_addMile_52 : decode cX1_addMile 52 = .ok (.iconst 0, 1) := by decide +kernel
theorem dX1_addMile_53 : decode cX1_addMile 53 = .ok (.invokevirtual 41, 3) := by decide +kernel
theorem dX1_addMile_56 : decode cX1_addMile 56 = .ok (.pop, 1) := by decide +kernel
theorem dX1_addMile_57 : decode cX1_addMile 57 = .ok (.aload_n 0, 1) := by decide +kernel
theorem dX1_addMile_58 : decode cX1_addMile 58 = .ok (.aload_n 0, 1) := by decide +kernel
theorem dX1_addMile_59 : decode cX1_addMile 59 = .ok (.getfield 9, 3) := by decide +kernel
theorem dX1_addMile_62 : decode cX1_addMile 62 = .ok (.iconst 4, 1) := by decide +kernel
theorem dX1_addMile_63 : decode cX1_addMile 63 = .ok (.iconst 0, 1) := by decide +kernel
theorem dX1_addMile_64 : decode cX1_addMile 64 = .ok (.invokevirtual 41, 3) := by decide +kernel
theorem dX1_addMile_67 : decode cX1_addMile 67 = .ok (.pop, 1) := by decide +kernel
theorem dX1_addMile_68 : decode cX1_addMile 68 = .ok (.aload_n 0, 1) := by decide +kernel
theorem dX1_addMile_69 : decode cX1_addMile 69 = .ok (.aload_n 0, 1) := by decide +kernel
theorem dX1_addMile_70 : decode cX1_addMile 70 = .ok (.getfield 9, 3) := by decide +kernel
theorem dX1_addMile_73 : decode cX1_addMile 73 = .ok (.iconst 5, 1) := by decide +kernel
theorem dX1_addMile_74 : decode cX1_addMile 74 = .ok (.bipush 8, 2) := by decide +kernel
theorem dX1_addMile_76 : decode cX1_addMile 76 = .ok (.invokevirtual 41, 3) := by decide +kernel
theorem dX1_addMile_79 : decode cX1_addMile 79 = .ok (.pop, 1) := by decide +kernel
theorem dX1_addMile_80 : decode cX1_addMile 80 = .ok (.aload_n 0, 1) := by decide +kernel
theorem dX1_addMile_81 : decode cX1_addMile 81 = .ok (.dup, 1) := by decide +kernel
theorem dX1_addMile_82 : decode cX1_addMile 82 = .ok (.getfield 9, 3) := by decide +kernel
theorem dX1_addMile_85 : decode cX1_addMile 85 = .ok (.iconst 1, 1) := by decide +kernel
theorem dX1_addMile_86 : decode cX1_addMile 86 = .ok (.iadd, 1) := by decide +kernel
theorem dX1_addMile_87 : decode cX1_addMile 87 = .ok (.putfield 9, 3) := by decide +kernel
theorem dX1_addMile_90 : decode cX1_addMile 90 = .ok (.aload_n 0, 1) := by decide +kernel
theorem dX1_addMile_91 : decode cX1_addMile 91 = .ok (.getfield 9, 3) := by decide +kernel
theorem dX1_addMile_94 : decode cX1_addMile 94 = .ok (.iconst 1, 1) := by decide +kernel
theorem dX1_addMile_95 : decode cX1_addMile 95 = .ok (.isub, 1) := by decide +kernel
theorem dX1_addMile_96 : decode cX1_addMile 96 = .ok (.ireturn, 1) := by decide +kernel
theorem dX1_takeMiles_0 : decode cX1_takeMiles 0 = .ok (.aload_n 0, 1) := by decide +kernel
theorem dX1_takeMiles_1 : decode cX1_takeMiles 1 = .ok (.iload_n 2, 1) := by decide +kernel
theorem dX1_takeMiles_2 : decode cX1_takeMiles 2 = .ok (.bipush 8, 2) := by decide +kernel
theorem dX1_takeMiles_4 : decode cX1_takeMiles 4 = .ok (.invokestatic 45, 3) := by decide +kernel
theorem dX1_takeMiles_7 : decode cX1_takeMiles 7 = .ok (.putfield 9, 3) := by decide +kernel
theorem dX1_takeMiles_10 : decode cX1_takeMiles 10 = .ok (.aload_n 1, 1) := by decide +kernel
theorem dX1_takeMiles_11 : decode cX1_takeMiles 11 = .ok (.iconst 0, 1) := by decide +kernel
theorem dX1_takeMiles_12 : decode cX1_takeMiles 12 = .ok (.aload_n 0, 1) := by decide +kernel
theorem dX1_takeMiles_13 : decode cX1_takeMiles 13 = .ok (.getfield 25, 3) := by decide +kernel
theorem dX1_takeMiles_16 : decode cX1_takeMiles 16 = .ok (.iconst 0, 1) := by decide +kernel
theorem dX1_takeMiles_17 : decode cX1_takeMiles 17 = .ok (.aload_n 0, 1) := by decide +kernel
theorem dX1_takeMiles_18 : decode cX1_takeMiles 18 = .ok (.getfield 9, 3) := by decide +kernel
theorem dX1_takeMiles_21 : decode cX1_takeMiles 21 = .ok (.bipush 6, 2) := by decide +kernel
theorem dX1_takeMiles_23 : decode cX1_takeMiles 23 = .ok (.imul, 1) := by decide +kernel
theorem dX1_takeMiles_24 : decode cX1_takeMiles 24 = .ok (.invokestatic 31, 3) := by decide +kernel
theorem dX1_takeMiles_27 : decode cX1_takeMiles 27 = .ok (.return_, 1) := by decide +kernel
theorem dX1_addShip_0 : decode cX1_addShip 0 = .ok (.aload_n 0, 1) := by decide +kernel
theorem dX1_addShip_1 : decode cX1_addShip 1 = .ok (.getfield 15, 3) := by decide +kernel
theorem dX1_addShip_4 : decode cX1_addShip 4 = .ok (.bipush 6, 2) := by decide +kernel
theorem dX1_addShip_6 : decode cX1_addShip 6 = .ok (.if_icmp .lt 6, 3) := by decide +kernel
theorem dX1_addShip_9 : decode cX1_addShip 9 = .ok (.bipush (-3), 2) := by decide +kernel
theorem dX1_addShip_11 : decode cX1_addShip 11 = .ok (.ireturn, 1) := by decide +kernel
theorem dX1_addShip_12 : decode cX1_addShip 12 = .ok (.aload_n 0, 1) := by decide +kernel
theorem dX1_addShip_13 : decode cX1_addShip 13 = .ok (.getfield 28, 3) := by decide +kernel
theorem dX1_addShip_16 : decode cX1_addShip 16 = .ok (.aload_n 0, 1) := by decide +kernel
theorem dX1_addShip_17 : decode cX1_addShip 17 = .ok (.getfield 15, 3) := by decide +kernel
theorem dX1_addShip_20 : decode cX1_addShip 20 = .ok (.iconst 3, 1) := by decide +kernel
theorem dX1_addShip_21 : decode cX1_addShip 21 = .ok (.imul, 1) := by decide +kernel
theorem dX1_addShip_22 : decode cX1_addShip 22 = .ok (.iconst 0, 1) := by decide +kernel
theorem dX1_addShip_23 : decode cX1_addShip 23 = .ok (.iadd, 1) := by decide +kernel
theorem dX1_addShip_24 : decode cX1_addShip 24 = .ok (.iload_n 1, 1) := by decide +kernel
theorem dX1_addShip_25 : decode cX1_addShip 25 = .ok (.iastore, 1) := by decide +kernel
theorem dX1_addShip_26 : decode cX1_addShip 26 = .ok (.aload_n 0, 1) := by decide +kernel
theorem dX1_addShip_27 : decode cX1_addShip 27 = .ok (.getfield 28, 3) := by decide +kernel
theorem dX1_addShip_30 : decode cX1_addShip 30 = .ok (.aload_n 0, 1) := by decide +kernel
theorem dX1_addShip_31 : decode cX1_addShip 31 = .ok (.getfield 15, 3) := by decide +kernel
theorem dX1_addShip_34 : decode cX1_addShip 34 = .ok (.iconst 3, 1) := by decide +kernel
theorem dX1_addShip_35 : decode cX1_addShip 35 = .ok (.imul, 1) := by decide +kernel
theorem dX1_addShip_36 : decode cX1_addShip 36 = .ok (.iconst 1, 1) := by decide +kernel
theorem dX1_addShip_37 : decode cX1_addShip 37 = .ok (.iadd, 1) := by decide +kernel
theorem dX1_addShip_38 : decode cX1_addShip 38 = .ok (.iload_n 2, 1) := by decide +kernel
theorem dX1_addShip_39 : decode cX1_addShip 39 = .ok (.iastore, 1) := by decide +kernel
theorem dX1_addShip_40 : decode cX1_addShip 40 = .ok (.aload_n 0, 1) := by decide +kernel
theorem dX1_addShip_41 : decode cX1_addShip 41 = .ok (.getfield 28, 3) := by decide +kernel
theorem dX1_addShip_44 : decode cX1_addShip 44 = .ok (.aload_n 0, 1) := by decide +kernel
theorem dX1_addShip_45 : decode cX1_addShip 45 = .ok (.getfield 15, 3) := by decide +kernel
theorem dX1_addShip_48 : decode cX1_addShip 48 = .ok (.iconst 3, 1) := by decide +kernel
theorem dX1_addShip_49 : decode cX1_addShip 49 = .ok (.imul, 1) := by decide +kernel
theorem dX1_addShip_50 : decode cX1_addShip 50 = .ok (.iconst 2, 1) := by decide +kernel
theorem dX1_addShip_51 : decode cX1_addShip 51 = .ok (.iadd, 1) := by decide +kernel
theorem dX1_addShip_52 : decode cX1_addShip 52 = .ok (.iload_n 3, 1) := by decide +kernel
theorem dX1_addShip_53 : decode cX1_addShip 53 = .ok (.iastore, 1) := by decide +kernel
theorem dX1_addShip_54 : decode cX1_addShip 54 = .ok (.aload_n 0, 1) := by decide +kernel
theorem dX1_addShip_55 : decode cX1_addShip 55 = .ok (.dup, 1) := by decide +kernel
theorem dX1_addShip_56 : decode cX1_addShip 56 = .ok (.getfield 15, 3) := by decide +kernel
theorem dX1_addShip_59 : decode cX1_addShip 59 = .ok (.iconst 1, 1) := by decide +kernel
theorem dX1_addShip_60 : decode cX1_addShip 60 = .ok (.iadd, 1) := by decide +kernel
theorem dX1_addShip_61 : decode cX1_addShip 61 = .ok (.putfield 15, 3) := by decide +kernel
theorem dX1_addShip_64 : decode cX1_addShip 64 = .ok (.aload_n 0, 1) := by decide +kernel
theorem dX1_addShip_65 : decode cX1_addShip 65 = .ok (.getfield 15, 3) := by decide +kernel
theorem dX1_addShip_68 : decode cX1_addShip 68 = .ok (.iconst 1, 1) := by decide +kernel
theorem dX1_addShip_69 : decode cX1_addShip 69 = .ok (.isub, 1) := by decide +kernel
theorem dX1_addShip_70 : decode cX1_addShip 70 = .ok (.ireturn, 1) := by decide +kernel
theorem dX1_widths_0 : decode cX1_widths 0 = .ok (.iconst 0, 1) := by decide +kernel
theorem dX1_widths_1 : decode cX1_widths 1 = .ok (.istore_n 1, 1) := by decide +kernel
theorem dX1_widths_2 : decode cX1_widths 2 = .ok (.iconst 0, 1) := by decide +kernel
theorem dX1_widths_3 : decode cX1_widths 3 = .ok (.istore_n 2, 1) := by decide +kernel
theorem dX1_widths_4 : decode cX1_widths 4 = .ok (.iload_n 2, 1) := by decide +kernel
theorem dX1_widths_5 : decode cX1_widths 5 = .ok (.aload_n 0, 1) := by decide +kernel
theorem dX1_widths_6 : decode cX1_widths 6 = .ok (.getfield 9, 3) := by decide +kernel
theorem dX1_widths_9 : decode cX1_widths 9 = .ok (.if_icmp .ge 18, 3) := by decide +kernel
theorem dX1_widths_12 : decode cX1_widths 12 = .ok (.iload_n 1, 1) := by decide +kernel
theorem dX1_widths_13 : decode cX1_widths 13 = .ok (.aload_n 0, 1) := by decide +kernel
theorem dX1_widths_14 : decode cX1_widths 14 = .ok (.iload_n 2, 1) := by decide +kernel
theorem dX1_widths_15 : decode cX1_widths 15 = .ok (.iconst 1, 1) := by decide +kernel
theorem dX1_widths_16 : decode cX1_widths 16 = .ok (.invokevirtual 37, 3) := by decide +kernel
theorem dX1_widths_19 : decode cX1_widths 19 = .ok (.iadd, 1) := by decide +kernel
theorem dX1_widths_20 : decode cX1_widths 20 = .ok (.istore_n 1, 1) := by decide +kernel
theorem dX1_widths_21 : decode cX1_widths 21 = .ok (.iinc 2 1, 3) := by decide +kernel
theorem dX1_widths_24 : decode cX1_widths 24 = .ok (.goto (-20), 3) := by decide +kernel
theorem dX1_widths_27 : decode cX1_widths 27 = .ok (.iload_n 1, 1) := by decide +kernel
theorem dX1_widths_28 : decode cX1_widths 28 = .ok (.ireturn, 1) := by decide +kernel
theorem dX1_tideAt_0 : decode cX1_tideAt 0 = .ok (.aload_n 0, 1) := by decide +kernel
theorem dX1_tideAt_1 : decode cX1_tideAt 1 = .ok (.aload_n 0, 1) := by decide +kernel
theorem dX1_tideAt_2 : decode cX1_tideAt 2 = .ok (.getfield 22, 3) := by decide +kernel
theorem dX1_tideAt_5 : decode cX1_tideAt 5 = .ok (.iconst 0, 1) := by decide +kernel
theorem dX1_tideAt_6 : decode cX1_tideAt 6 = .ok (.iaload, 1) := by decide +kernel
theorem dX1_tideAt_7 : decode cX1_tideAt 7 = .ok (.iload_n 1, 1) := by decide +kernel
theorem dX1_tideAt_8 : decode cX1_tideAt 8 = .ok (.invokevirtual 50, 3) := by decide +kernel
theorem dX1_tideAt_11 : decode cX1_tideAt 11 = .ok (.ireturn, 1) := by decide +kernel
theorem dX1_tideBy_0 : decode cX1_tideBy 0 = .ok (.iload_n 2, 1) := by decide +kernel
theorem dX1_tideBy_1 : decode cX1_tideBy 1 = .ok (.iload_n 1, 1) := by decide +kernel
theorem dX1_tideBy_2 : decode cX1_tideBy 2 = .ok (.isub, 1) := by decide +kernel
theorem dX1_tideBy_3 : decode cX1_tideBy 3 = .ok (.sipush 1440, 3) := by decide +kernel
theorem dX1_tideBy_6 : decode cX1_tideBy 6 = .ok (.invokestatic 53, 3) := by decide +kernel
theorem dX1_tideBy_9 : decode cX1_tideBy 9 = .ok (.istore_n 3, 1) := by decide +kernel
theorem dX1_tideBy_10 : decode cX1_tideBy 10 = .ok (.aload_n 0, 1) := by decide +kernel
theorem dX1_tideBy_11 : decode cX1_tideBy 11 = .ok (.getfield 18, 3) := by decide +kernel
theorem dX1_tideBy_14 : decode cX1_tideBy 14 = .ok (.iload_n 3, 1) := by decide +kernel
theorem dX1_tideBy_15 : decode cX1_tideBy 15 = .ok (.bipush 60, 2) := by decide +kernel
theorem dX1_tideBy_17 : decode cX1_tideBy 17 = .ok (.idiv, 1) := by decide +kernel
theorem dX1_tideBy_18 : decode cX1_tideBy 18 = .ok (.iaload, 1) := by decide +kernel
theorem dX1_tideBy_19 : decode cX1_tideBy 19 = .ok (.istore 4, 2) := by decide +kernel
theorem dX1_tideBy_21 : decode cX1_tideBy 21 = .ok (.aload_n 0, 1) := by decide +kernel
theorem dX1_tideBy_22 : decode cX1_tideBy 22 = .ok (.getfield 18, 3) := by decide +kernel
theorem dX1_tideBy_25 : decode cX1_tideBy 25 = .ok (.iload_n 3, 1) := by decide +kernel
theorem dX1_tideBy_26 : decode cX1_tideBy 26 = .ok (.bipush 60, 2) := by decide +kernel
theorem dX1_tideBy_28 : decode cX1_tideBy 28 = .ok (.idiv, 1) := by decide +kernel
theorem dX1_tideBy_29 : decode cX1_tideBy 29 = .ok (.iconst 1, 1) := by decide +kernel
theorem dX1_tideBy_30 : decode cX1_tideBy 30 = .ok (.iadd, 1) := by decide +kernel
theorem dX1_tideBy_31 : decode cX1_tideBy 31 = .ok (.bipush 24, 2) := by decide +kernel
theorem dX1_tideBy_33 : decode cX1_tideBy 33 = .ok (.irem, 1) := by decide +kernel
theorem dX1_tideBy_34 : decode cX1_tideBy 34 = .ok (.iaload, 1) := by decide +kernel
theorem dX1_tideBy_35 : decode cX1_tideBy 35 = .ok (.istore 5, 2) := by decide +kernel
theorem dX1_tideBy_37 : decode cX1_tideBy 37 = .ok (.iload 4, 2) := by decide +kernel
theorem dX1_tideBy_39 : decode cX1_tideBy 39 = .ok (.iload 5, 2) := by decide +kernel
theorem dX1_tideBy_41 : decode cX1_tideBy 41 = .ok (.iload 4, 2) := by decide +kernel
theorem dX1_tideBy_43 : decode cX1_tideBy 43 = .ok (.isub, 1) := by decide +kernel
theorem dX1_tideBy_44 : decode cX1_tideBy 44 = .ok (.iload_n 3, 1) := by decide +kernel
theorem dX1_tideBy_45 : decode cX1_tideBy 45 = .ok (.bipush 60, 2) := by decide +kernel
theorem dX1_tideBy_47 : decode cX1_tideBy 47 = .ok (.irem, 1) := by decide +kernel
theorem dX1_tideBy_48 : decode cX1_tideBy 48 = .ok (.imul, 1) := by decide +kernel
theorem dX1_tideBy_49 : decode cX1_tideBy 49 = .ok (.bipush 60, 2) := by decide +kernel
theorem dX1_tideBy_51 : decode cX1_tideBy 51 = .ok (.idiv, 1) := by decide +kernel
theorem dX1_tideBy_52 : decode cX1_tideBy 52 = .ok (.iadd, 1) := by decide +kernel
theorem dX1_tideBy_53 : decode cX1_tideBy 53 = .ok (.ireturn, 1) := by decide +kernel
theorem dX1_levelAt_0 : decode cX1_levelAt 0 = .ok (.iload_n 1, 1) := by decide +kernel
theorem dX1_levelAt_1 : decode cX1_levelAt 1 = .ok (.bipush 6, 2) := by decide +kernel
theorem dX1_levelAt_3 : decode cX1_levelAt 3 = .ok (.imul, 1) := by decide +kernel
theorem dX1_levelAt_4 : decode cX1_levelAt 4 = .ok (.istore 4, 2) := by decide +kernel
theorem dX1_levelAt_6 : decode cX1_levelAt 6 = .ok (.aload_n 0, 1) := by decide +kernel
theorem dX1_levelAt_7 : decode cX1_levelAt 7 = .ok (.getfield 25, 3) := by decide +kernel
theorem dX1_levelAt_10 : decode cX1_levelAt 10 = .ok (.iload 4, 2) := by decide +kernel
theorem dX1_levelAt_12 : decode cX1_levelAt 12 = .ok (.iconst 0, 1) := by decide +kernel
theorem dX1_levelAt_13 : decode cX1_levelAt 13 = .ok (.iadd, 1) := by decide +kernel
theorem dX1_levelAt_14 : decode cX1_levelAt 14 = .ok (.iaload, 1) := by decide +kernel
theorem dX1_levelAt_15 : decode cX1_levelAt 15 = .ok (.aload_n 0, 1) := by decide +kernel
theorem dX1_levelAt_16 : decode cX1_levelAt 16 = .ok (.getfield 25, 3) := by decide +kernel
theorem dX1_levelAt_19 : decode cX1_levelAt 19 = .ok (.iload 4, 2) := by decide +kernel
theorem dX1_levelAt_21 : decode cX1_levelAt 21 = .ok (.iconst 3, 1) := by decide +kernel
theorem dX1_levelAt_22 : decode cX1_levelAt 22 = .ok (.iadd, 1) := by decide +kernel
theorem dX1_levelAt_23 : decode cX1_levelAt 23 = .ok (.iaload, 1) := by decide +kernel
theorem dX1_levelAt_24 : decode cX1_levelAt 24 = .ok (.aload_n 0, 1) := by decide +kernel
theorem dX1_levelAt_25 : decode cX1_levelAt 25 = .ok (.getfield 22, 3) := by decide +kernel
theorem dX1_levelAt_28 : decode cX1_levelAt 28 = .ok (.iconst 2, 1) := by decide +kernel
theorem dX1_levelAt_29 : decode cX1_levelAt 29 = .ok (.iaload, 1) := by decide +kernel
theorem dX1_levelAt_30 : decode cX1_levelAt 30 = .ok (.imul, 1) := by decide +kernel
theorem dX1_levelAt_31 : decode cX1_levelAt 31 = .ok (.bipush 10, 2) := by decide +kernel
theorem dX1_levelAt_33 : decode cX1_levelAt 33 = .ok (.idiv, 1) := by decide +kernel
theorem dX1_levelAt_34 : decode cX1_levelAt 34 = .ok (.iadd, 1) := by decide +kernel
theorem dX1_levelAt_35 : decode cX1_levelAt 35 = .ok (.iload_n 2, 1) := by decide +kernel
theorem dX1_levelAt_36 : decode cX1_levelAt 36 = .ok (.iadd, 1) := by decide +kernel
theorem dX1_levelAt_37 : decode cX1_levelAt 37 = .ok (.iconst 2, 1) := by decide +kernel
theorem dX1_levelAt_38 : decode cX1_levelAt 38 = .ok (.iload_n 3, 1) := by decide +kernel
theorem dX1_levelAt_39 : decode cX1_levelAt 39 = .ok (.imul, 1) := by decide +kernel
theorem dX1_levelAt_40 : decode cX1_levelAt 40 = .ok (.isub, 1) := by decide +kernel
theorem dX1_levelAt_41 : decode cX1_levelAt 41 = .ok (.ireturn, 1) := by decide +kernel
theorem dX2_init_0 : decode cX2_init 0 = .ok (.aload_n 0, 1) := by decide +kernel
theorem dX2_init_1 : decode cX2_init 1 = .ok (.invokespecial 3, 3) := by decide +kernel
theorem dX2_init_4 : decode cX2_init 4 = .ok (.aload_n 0, 1) := by decide +kernel
theorem dX2_init_5 : decode cX2_init 5 = .ok (.bipush 24, 2) := by decide +kernel
theorem dX2_init_7 : decode cX2_init 7 = .ok (.newarray .int, 2) := by decide +kernel
theorem dX2_init_9 : decode cX2_init 9 = .ok (.putfield 9, 3) := by decide +kernel
theorem dX2_init_12 : decode cX2_init 12 = .ok (.aload_n 0, 1) := by decide +kernel
theorem dX2_init_13 : decode cX2_init 13 = .ok (.iconst (-1), 1) := by decide +kernel
theorem dX2_init_14 : decode cX2_init 14 = .ok (.putfield 15, 3) := by decide +kernel
theorem dX2_init_17 : decode cX2_init 17 = .ok (.aload_n 0, 1) := by decide +kernel
theorem dX2_init_18 : decode cX2_init 18 = .ok (.bipush 100, 2) := by decide +kernel
theorem dX2_init_20 : decode cX2_init 20 = .ok (.bipush 38, 2) := by decide +kernel
theorem dX2_init_22 : decode cX2_init 22 = .ok (.multianewarray 19 2, 4) := by decide +kernel
theorem dX2_init_26 : decode cX2_init 26 = .ok (.putfield 21, 3) := by decide +kernel
theorem dX2_init_29 : decode cX2_init 29 = .ok (.aload_n 0, 1) := by decide +kernel
theorem dX2_init_30 : decode cX2_init 30 = .ok (.bipush 16, 2) := by decide +kernel
theorem dX2_init_32 : decode cX2_init 32 = .ok (.getstatic 24, 3) := by decide +kernel
theorem dX2_init_35 : decode cX2_init 35 = .ok (.arraylength, 1) := by decide +kernel
theorem dX2_init_36 : decode cX2_init 36 = .ok (.imul, 1) := by decide +kernel
theorem dX2_init_37 : decode cX2_init 37 = .ok (.newarray .int, 2) := by decide +kernel
theorem dX2_init_39 : decode cX2_init 39 = .ok (.putfield 27, 3) := by decide +kernel
theorem dX2_init_42 : decode cX2_init 42 = .ok (.aload_n 0, 1) := by decide +kernel
theorem dX2_init_43 : decode cX2_init 43 = .ok (.bipush 17, 2) := by decide +kernel
theorem dX2_init_45 : decode cX2_init 45 = .ok (.bipush 38, 2) := by decide +kernel
theorem dX2_init_47 : decode cX2_init 47 = .ok (.multianewarray 19 2, 4) := by decide +kernel
theorem dX2_init_51 : decode cX2_init 51 = .ok (.putfield 30, 3) := by decide +kernel
theorem dX2_init_54 : decode cX2_init 54 = .ok (.aload_n 0, 1) := by decide +kernel
theorem dX2_init_55 : decode cX2_init 55 = .ok (.aload_n 1, 1) := by decide +kernel
theorem dX2_init_56 : decode cX2_init 56 = .ok (.putfield 33, 3) := by decide +kernel
theorem dX2_init_59 : decode cX2_init 59 = .ok (.return_, 1) := by decide +kernel
theorem dX2_begin_0 : decode cX2_begin 0 = .ok (.aload_n 0, 1) := by decide +kernel
theorem dX2_begin_1 : decode cX2_begin 1 = .ok (.invokevirtual 37, 3) := by decide +kernel
theorem dX2_begin_4 : decode cX2_begin 4 = .ok (.aload_n 0, 1) := by decide +kernel
theorem dX2_begin_5 : decode cX2_begin 5 = .ok (.aload_n 1, 1) := by decide +kernel
theorem dX2_begin_6 : decode cX2_begin 6 = .ok (.invokevirtual 40, 3) := by decide +kernel
theorem dX2_begin_9 : decode cX2_begin 9 = .ok (.return_, 1) := by decide +kernel
theorem dX2_layTide_0 : decode cX2_layTide 0 = .ok (.aload_n 0, 1) := by decide +kernel
theorem dX2_layTide_1 : decode cX2_layTide 1 = .ok (.invokevirtual 44, 3) := by decide +kernel
theorem dX2_layTide_4 : decode cX2_layTide 4 = .ok (.ifCond .eq 4, 3) := by decide +kernel
theorem dX2_layTide_7 : decode cX2_layTide 7 = .ok (.return_, 1) := by decide +kernel
theorem dX2_layTide_8 : decode cX2_layTide 8 = .ok (.aload_n 0, 1) := by decide +kernel
theorem dX2_layTide_9 : decode cX2_layTide 9 = .ok (.getfield 33, 3) := by decide +kernel
theorem dX2_layTide_12 : decode cX2_layTide 12 = .ok (.getfield 48, 3) := by decide +kernel
theorem dX2_layTide_15 : decode cX2_layTide 15 = .ok (.iconst 0, 1) := by decide +kernel
theorem dX2_layTide_16 : decode cX2_layTide 16 = .ok (.aload_n 0, 1) := by decide +kernel
theorem dX2_layTide_17 : decode cX2_layTide 17 = .ok (.getfield 9, 3) := by decide +kernel
theorem dX2_layTide_20 : decode cX2_layTide 20 = .ok (.iconst 0, 1) := by decide +kernel
theorem dX2_layTide_21 : decode cX2_layTide 21 = .ok (.bipush 24, 2) := by decide +kernel
theorem dX2_layTide_23 : decode cX2_layTide 23 = .ok (.invokestatic 53, 3) := by decide +kernel
theorem dX2_layTide_26 : decode cX2_layTide 26 = .ok (.aload_n 0, 1) := by decide +kernel
theorem dX2_layTide_27 : decode cX2_layTide 27 = .ok (.aload_n 0, 1) := by decide +kernel
theorem dX2_layTide_28 : decode cX2_layTide 28 = .ok (.getfield 33, 3) := by decide +kernel
theorem dX2_layTide_31 : decode cX2_layTide 31 = .ok (.getfield 59, 3) := by decide +kernel
theorem dX2_layTide_34 : decode cX2_layTide 34 = .ok (.iconst 0, 1) := by decide +kernel
theorem dX2_layTide_35 : decode cX2_layTide 35 = .ok (.iaload, 1) := by decide +kernel
theorem dX2_layTide_36 : decode cX2_layTide 36 = .ok (.putfield 15, 3) := by decide +kernel
theorem dX2_layTide_39 : decode cX2_layTide 39 = .ok (.iconst 0, 1) := by decide +kernel
theorem dX2_layTide_40 : decode cX2_layTide 40 = .ok (.istore_n 1, 1) := by decide +kernel
theorem dX2_layTide_41 : decode cX2_layTide 41 = .ok (.iload_n 1, 1) := by decide +kernel
theorem dX2_layTide_42 : decode cX2_layTide 42 = .ok (.bipush 100, 2) := by decide +kernel
theorem dX2_layTide_44 : decode cX2_layTide 44 = .ok (.if_icmp .ge 18, 3) := by decide +kernel
theorem dX2_layTide_47 : decode cX2_layTide 47 = .ok (.aload_n 0, 1) := by decide +kernel
theorem dX2_layTide_48 : decode cX2_layTide 48 = .ok (.getfield 21, 3) := by decide +kernel
theorem dX2_layTide_51 : decode cX2_layTide 51 = .ok (.iload_n 1, 1) := by decide +kernel
theorem dX2_layTide_52 : decode cX2_layTide 52 = .ok (.aaload, 1) := by decide +kernel
theorem dX2_layTide_53 : decode cX2_layTide 53 = .ok (.invokestatic 62, 3) := by decide +kernel
theorem dX2_layTide_56 : decode cX2_layTide 56 = .ok (.iinc 1 1, 3) := by decide +kernel
theorem dX2_layTide_59 : decode cX2_layTide 59 = .ok (.goto (-18), 3) := by decide +kernel
theorem dX2_layTide_62 : decode cX2_layTide 62 = .ok (.iconst 0, 1) := by decide +kernel
theorem dX2_layTide_63 : decode cX2_layTide 63 = .ok (.istore_n 1, 1) := by decide +kernel
theorem dX2_layTide_64 : decode cX2_layTide 64 = .ok (.iload_n 1, 1) := by decide +kernel
theorem dX2_layTide_65 : decode cX2_layTide 65 = .ok (.sipush 2400, 3) := by decide +kernel
theorem dX2_layTide_68 : decode cX2_layTide 68 = .ok (.if_icmp .ge 38, 3) := by decide +kernel
theorem dX2_layTide_71 : decode cX2_layTide 71 = .ok (.aload_n 0, 1) := by decide +kernel
theorem dX2_layTide_72 : decode cX2_layTide 72 = .ok (.getfield 33, 3) := by decide +kernel
theorem dX2_layTide_75 : decode cX2_layTide 75 = .ok (.iload_n 1, 1) := by decide +kernel
theorem dX2_layTide_76 : decode cX2_layTide 76 = .ok (.invokevirtual 66, 3) := by decide +kernel
theorem dX2_layTide_79 : decode cX2_layTide 79 = .ok (.istore_n 2, 1) := by decide +kernel
theorem dX2_layTide_80 : decode cX2_layTide 80 = .ok (.iload_n 2, 1) := by decide +kernel
theorem dX2_layTide_81 : decode cX2_layTide 81 = .ok (.iconst 0, 1) := by decide +kernel
theorem dX2_layTide_82 : decode cX2_layTide 82 = .ok (.bipush 99, 2) := by decide +kernel
theorem dX2_layTide_84 : decode cX2_layTide 84 = .ok (.invokestatic 70, 3) := by decide +kernel
theorem dX2_layTide_87 : decode cX2_layTide 87 = .ok (.ifCond .eq 13, 3) := by decide +kernel
theorem dX2_layTide_90 : decode cX2_layTide 90 = .ok (.aload_n 0, 1) := by decide +kernel
theorem dX2_layTide_91 : decode cX2_layTide 91 = .ok (.getfield 21, 3) := by decide +kernel
theorem dX2_layTide_94 : decode cX2_layTide 94 = .ok (.iload_n 2, 1) := by decide +kernel
theorem dX2_layTide_95 : decode cX2_layTide 95 = .ok (.aaload, 1) := by decide +kernel
theorem dX2_layTide_96 : decode cX2_layTide 96 = .ok (.iload_n 1, 1) := by decide +kernel
theorem dX2_layTide_97 : decode cX2_layTide 97 = .ok (.invokestatic 74, 3) := by decide +kernel
theorem dX2_layTide_100 : decode cX2_layTide 100 = .ok (.iinc 1 1, 3) := by decide +kernel
theorem dX2_layTide_103 : decode cX2_layTide 103 = .ok (.goto (-39), 3) := by decide +kernel
theorem dX2_layTide_106 : decode cX2_layTide 106 = .ok (.bipush 98, 2) := by decide +kernel
theorem dX2_layTide_108 : decode cX2_layTide 108 = .ok (.istore_n 1, 1) := by decide +kernel
theorem dX2_layTide_109 : decode cX2_layTide 109 = .ok (.iload_n 1, 1) := by decide +kernel
theorem dX2_layTide_110 : decode cX2_layTide 110 = .ok (.ifCond .lt 44, 3) := by decide +kernel
theorem dX2_layTide_113 : decode cX2_layTide 113 = .ok (.iconst 0, 1) := by decide +kernel
theorem dX2_layTide_114 : decode cX2_layTide 114 = .ok (.istore_n 2, 1) := by decide +kernel
theorem dX2_layTide_115 : decode cX2_layTide 115 = .ok (.iload_n 2, 1) := by decide +kernel
theorem dX2_layTide_116 : decode cX2_layTide 116 = .ok (.bipush 38, 2) := by decide +kernel
theorem dX2_layTide_118 : decode cX2_layTide 118 = .ok (.if_icmp .ge 30, 3) := by decide +kernel
theorem dX2_layTide_121 : decode cX2_layTide 121 = .ok (.aload_n 0, 1) := by decide +kernel
theorem dX2_layTide_122 : decode cX2_layTide 122 = .ok (.getfield 21, 3) := by decide +kernel
theorem dX2_layTide_125 : decode cX2_layTide 125 = .ok (.iload_n 1, 1) := by decide +kernel
theorem dX2_layTide_126 : decode cX2_layTide 126 = .ok (.aaload, 1) := by decide +kernel
theorem dX2_layTide_127 : decode cX2_layTide 127 = .ok (.iload_n 2, 1) := by decide +kernel
theorem dX2_layTide_128 : decode cX2_layTide 128 = .ok (.dup2, 1) := by decide +kernel
theorem dX2_layTide_129 : decode cX2_layTide 129 = .ok (.laload, 1) := by decide +kernel
theorem dX2_layTide_130 : decode cX2_layTide 130 = .ok (.aload_n 0, 1) := by decide +kernel
theorem dX2_layTide_131 : decode cX2_layTide 131 = .ok (.getfield 21, 3) := by decide +kernel
theorem dX2_layTide_134 : decode cX2_layTide 134 = .ok (.iload_n 1, 1) := by decide +kernel
theorem dX2_layTide_135 : decode cX2_layTide 135 = .ok (.iconst 1, 1) := by decide +kernel
theorem dX2_layTide_136 : decode cX2_layTide 136 = .ok (.iadd, 1) := by decide +kernel
theorem dX2_layTide_137 : decode cX2_layTide 137 = .ok (.aaload, 1) := by decide +kernel
theorem dX2_layTide_138 : decode cX2_layTide 138 = .ok (.iload_n 2, 1) := by decide +kernel
theorem dX2_layTide_139 : decode cX2_layTide 139 = .ok (.laload, 1) := by decide +kernel
theorem dX2_layTide_140 : decode cX2_layTide 140 = .ok (.lor, 1) := by decide +kernel
theorem dX2_layTide_141 : decode cX2_layTide 141 = .ok (.lastore, 1) := by decide +kernel
theorem dX2_layTide_142 : decode cX2_layTide 142 = .ok (.iinc 2 1, 3) := by decide +kernel
theorem dX2_layTide_145 : decode cX2_layTide 145 = .ok (.goto (-30), 3) := by decide +kernel
theorem dX2_layTide_148 : decode cX2_layTide 148 = .ok (.iinc 1 (-1), 3) := by decide +kernel
theorem dX2_layTide_151 : decode cX2_layTide 151 = .ok (.goto (-42), 3) := by decide +kernel
theorem dX2_layTide_154 : decode cX2_layTide 154 = .ok (.return_, 1) := by decide +kernel
theorem dX2_isLaid_0 : decode cX2_isLaid 0 = .ok (.aload_n 0, 1) := by decide +kernel
theorem dX2_isLaid_1 : decode cX2_isLaid 1 = .ok (.getfield 15, 3) := by decide +kernel
theorem dX2_isLaid_4 : decode cX2_isLaid 4 = .ok (.aload_n 0, 1) := by decide +kernel
theorem dX2_isLaid_5 : decode cX2_isLaid 5 = .ok (.getfield 33, 3) := by decide +kernel
theorem dX2_isLaid_8 : decode cX2_isLaid 8 = .ok (.getfield 59, 3) := by decide +kernel
theorem dX2_isLaid_11 : decode cX2_isLaid 11 = .ok (.iconst 0, 1) := by decide +kernel
theorem dX2_isLaid_12 : decode cX2_isLaid 12 = .ok (.iaload, 1) := by decide +kernel
theorem dX2_isLaid_13 : decode cX2_isLaid 13 = .ok (.if_icmp .ne 7, 3) := by decide +kernel
theorem dX2_isLaid_16 : decode cX2_isLaid 16 = .ok (.iconst 1, 1) := by decide +kernel
theorem dX2_isLaid_17 : decode cX2_isLaid 17 = .ok (.goto 4, 3) := by decide +kernel
theorem dX2_isLaid_20 : decode cX2_isLaid 20 = .ok (.iconst 0, 1) := by decide +kernel
theorem dX2_isLaid_21 : decode cX2_isLaid 21 = .ok (.istore_n 1, 1) := by decide +kernel
theorem dX2_isLaid_22 : decode cX2_isLaid 22 = .ok (.iconst 0, 1) := by decide +kernel
theorem dX2_isLaid_23 : decode cX2_isLaid 23 = .ok (.istore_n 2, 1) := by decide +kernel
theorem dX2_isLaid_24 : decode cX2_isLaid 24 = .ok (.iload_n 2, 1) := by decide +kernel
theorem dX2_isLaid_25 : decode cX2_isLaid 25 = .ok (.bipush 24, 2) := by decide +kernel
theorem dX2_isLaid_27 : decode cX2_isLaid 27 = .ok (.if_icmp .ge 37, 3) := by decide +kernel
theorem dX2_isLaid_30 : decode cX2_isLaid 30 = .ok (.iload_n 1, 1) := by decide +kernel
theorem dX2_isLaid_31 : decode cX2_isLaid 31 = .ok (.ifCond .eq 33, 3) := by decide +kernel
theorem dX2_isLaid_34 : decode cX2_isLaid 34 = .ok (.aload_n 0, 1) := by decide +kernel
theorem dX2_isLaid_35 : decode cX2_isLaid 35 = .ok (.getfield 9, 3) := by decide +kernel
theorem dX2_isLaid_38 : decode cX2_isLaid 38 = .ok (.iload_n 2, 1) := by decide +kernel
theorem dX2_isLaid_39 : decode cX2_isLaid 39 = .ok (.iaload, 1) := by decide +kernel
theorem dX2_isLaid_40 : decode cX2_isLaid 40 = .ok (.aload_n 0, 1) := by decide +kernel
theorem dX2_isLaid_41 : decode cX2_isLaid 41 = .ok (.getfield 33, 3) := by decide +kernel
theorem dX2_isLaid_44 : decode cX2_isLaid 44 = .ok (.getfield 48, 3) := by decide +kernel
theorem dX2_isLaid_47 : decode cX2_isLaid 47 = .ok (.iload_n 2, 1) := by decide +kernel
theorem dX2_isLaid_48 : decode cX2_isLaid 48 = .ok (.iaload, 1) := by decide +kernel
theorem dX2_isLaid_49 : decode cX2_isLaid 49 = .ok (.if_icmp .ne 7, 3) := by decide +kernel
theorem dX2_isLaid_52 : decode cX2_isLaid 52 = .ok (.iconst 1, 1) := by decide +kernel
theorem dX2_isLaid_53 : decode cX2_isLaid 53 = .ok (.goto 4, 3) := by decide +kernel
theorem dX2_isLaid_56 : decode cX2_isLaid 56 = .ok (.iconst 0, 1) := by decide +kernel
theorem dX2_isLaid_57 : decode cX2_isLaid 57 = .ok (.istore_n 1, 1) := by decide +kernel
theorem dX2_isLaid_58 : decode cX2_isLaid 58 = .ok (.iinc 2 1, 3) := by decide +kernel
theorem dX2_isLaid_61 : decode cX2_isLaid 61 = .ok (.goto (-37), 3) := by decide +kernel
theorem dX2_isLaid_64 : decode cX2_isLaid 64 = .ok (.iload_n 1, 1) := by decide +kernel
theorem dX2_isLaid_65 : decode cX2_isLaid 65 = .ok (.ireturn, 1) := by decide +kernel
theorem dX2_rule_0 : decode cX2_rule 0 = .ok (.iconst 0, 1) := by decide +kernel
theorem dX2_rule_1 : decode cX2_rule 1 = .ok (.istore_n 2, 1) := by decide +kernel
theorem dX2_rule_2 : decode cX2_rule 2 = .ok (.iload_n 2, 1) := by decide +kernel
theorem dX2_rule_3 : decode cX2_rule 3 = .ok (.aload_n 0, 1) := by decide +kernel
theorem dX2_rule_4 : decode cX2_rule 4 = .ok (.getfield 33, 3) := by decide +kernel
theorem dX2_rule_7 : decode cX2_rule 7 = .ok (.getfield 78, 3) := by decide +kernel
theorem dX2_rule_10 : decode cX2_rule 10 = .ok (.if_icmp .ge 15, 3) := by decide +kernel
theorem dX2_rule_13 : decode cX2_rule 13 = .ok (.aload_n 0, 1) := by decide +kernel
theorem dX2_rule_14 : decode cX2_rule 14 = .ok (.aload_n 1, 1) := by decide +kernel
theorem dX2_rule_15 : decode cX2_rule 15 = .ok (.iload_n 2, 1) := by decide +kernel
theorem dX2_rule_16 : decode cX2_rule 16 = .ok (.invokevirtual 81, 3) := by decide +kernel
theorem dX2_rule_19 : decode cX2_rule 19 = .ok (.iinc 2 1, 3) := by decide +kernel
theorem dX2_rule_22 : decode cX2_rule 22 = .ok (.goto (-20), 3) := by decide +kernel
theorem dX2_rule_25 : decode cX2_rule 25 = .ok (.return_, 1) := by decide +kernel
theorem dX2_ruleMile_0 : decode cX2_ruleMile 0 = .ok (.aload_n 1, 1) := by decide +kernel
theorem dX2_ruleMile_1 : decode cX2_ruleMile 1 = .ok (.getfield 85, 3) := by decide +kernel
theorem dX2_ruleMile_4 : decode cX2_ruleMile 4 = .ok (.aload_n 1, 1) := by decide +kernel
theorem dX2_ruleMile_5 : decode cX2_ruleMile 5 = .ok (.iload_n 2, 1) := by decide +kernel
theorem dX2_ruleMile_6 : decode cX2_ruleMile 6 = .ok (.aload_n 1, 1) := by decide +kernel
theorem dX2_ruleMile_7 : decode cX2_ruleMile 7 = .ok (.iload_n 2, 1) := by decide +kernel
theorem dX2_ruleMile_8 : decode cX2_ruleMile 8 = .ok (.iconst 0, 1) := by decide +kernel
theorem dX2_ruleMile_9 : decode cX2_ruleMile 9 = .ok (.invokevirtual 90, 3) := by decide +kernel
theorem dX2_ruleMile_12 : decode cX2_ruleMile 12 = .ok (.invokevirtual 94, 3) := by decide +kernel
theorem dX2_ruleMile_15 : decode cX2_ruleMile 15 = .ok (.isub, 1) := by decide +kernel
theorem dX2_ruleMile_16 : decode cX2_ruleMile 16 = .ok (.istore_n 3, 1) := by decide +kernel
theorem dX2_ruleMile_17 : decode cX2_ruleMile 17 = .ok (.iconst 0, 1) := by decide +kernel
theorem dX2_ruleMile_18 : decode cX2_ruleMile 18 = .ok (.bipush 100, 2) := by decide +kernel
theorem dX2_ruleMile_20 : decode cX2_ruleMile 20 = .ok (.iload_n 3, 1) := by decide +kernel
theorem dX2_ruleMile_21 : decode cX2_ruleMile 21 = .ok (.invokestatic 97, 3) := by decide +kernel
theorem dX2_ruleMile_24 : decode cX2_ruleMile 24 = .ok (.invokestatic 102, 3) := by decide +kernel
theorem dX2_ruleMile_27 : decode cX2_ruleMile 27 = .ok (.istore 4, 2) := by decide +kernel
theorem dX2_ruleMile_29 : decode cX2_ruleMile 29 = .ok (.iconst 0, 1) := by decide +kernel
theorem dX2_ruleMile_30 : decode cX2_ruleMile 30 = .ok (.istore 5, 2) := by decide +kernel
theorem dX2_ruleMile_32 : decode cX2_ruleMile 32 = .ok (.iload 5, 2) := by decide +kernel
theorem dX2_ruleMile_34 : decode cX2_ruleMile 34 = .ok (.getstatic 24, 3) := by decide +kernel
theorem dX2_ruleMile_37 : decode cX2_ruleMile 37 = .ok (.arraylength, 1) := by decide +kernel
theorem dX2_ruleMile_38 : decode cX2_ruleMile 38 = .ok (.if_icmp .ge 58, 3) := by decide +kernel
theorem dX2_ruleMile_41 : decode cX2_ruleMile 41 = .ok (.iload 4, 2) := by decide +kernel
theorem dX2_ruleMile_43 : decode cX2_ruleMile 43 = .ok (.bipush 100, 2) := by decide +kernel
theorem dX2_ruleMile_45 : decode cX2_ruleMile 45 = .ok (.if_icmp .ge 29, 3) := by decide +kernel
theorem dX2_ruleMile_48 : decode cX2_ruleMile 48 = .ok (.aload_n 1, 1) := by decide +kernel
theorem dX2_ruleMile_49 : decode cX2_ruleMile 49 = .ok (.iload_n 2, 1) := by decide +kernel
theorem dX2_ruleMile_50 : decode cX2_ruleMile 50 = .ok (.iload 4, 2) := by decide +kernel
theorem dX2_ruleMile_52 : decode cX2_ruleMile 52 = .ok (.getstatic 24, 3) := by decide +kernel
theorem dX2_ruleMile_55 : decode cX2_ruleMile 55 = .ok (.iload 5, 2) := by decide +kernel
theorem dX2_ruleMile_57 : decode cX2_ruleMile 57 = .ok (.iaload, 1) := by decide +kernel
theorem dX2_ruleMile_58 : decode cX2_ruleMile 58 = .ok (.invokevirtual 105, 3) := by decide +kernel
theorem dX2_ruleMile_61 : decode cX2_ruleMile 61 = .ok (.aload_n 1, 1) := by decide +kernel
theorem dX2_ruleMile_62 : decode cX2_ruleMile 62 = .ok (.getfield 85, 3) := by decide +kernel
theorem dX2_ruleMile_65 : decode cX2_ruleMile 65 = .ok (.if_icmp .ge 9, 3) := by decide +kernel
theorem dX2_ruleMile_68 : decode cX2_ruleMile 68 = .ok (.iinc 4 1, 3) := by decide +kernel
theorem dX2_ruleMile_71 : decode cX2_ruleMile 71 = .ok (.goto (-30), 3) := by decide +kernel
theorem dX2_ruleMile_74 : decode cX2_ruleMile 74 = .ok (.aload_n 0, 1) := by decide +kernel
theorem dX2_ruleMile_75 : decode cX2_ruleMile 75 = .ok (.getfield 27, 3) := by decide +kernel
theorem dX2_ruleMile_78 : decode cX2_ruleMile 78 = .ok (.iload_n 2, 1) := by decide +kernel
theorem dX2_ruleMile_79 : decode cX2_ruleMile 79 = .ok (.getstatic 24, 3) := by decide +kernel
theorem dX2_ruleMile_82 : decode cX2_ruleMile 82 = .ok (.arraylength, 1) := by decide +kernel
theorem dX2_ruleMile_83 : decode cX2_ruleMile 83 = .ok (.imul, 1) := by decide +kernel
theorem dX2_ruleMile_84 : decode cX2_ruleMile 84 = .ok (.iload 5, 2) := by decide +kernel
theorem dX2_ruleMile_86 : decode cX2_ruleMile 86 = .ok (.iadd, 1) := by decide +kernel
theorem dX2_ruleMile_87 : decode cX2_ruleMile 87 = .ok (.iload 4, 2) := by decide +kernel
theorem dX2_ruleMile_89 : decode cX2_ruleMile 89 = .ok (.iastore, 1) := by decide +kernel
theorem dX2_ruleMile_90 : decode cX2_ruleMile 90 = .ok (.iinc 5 1, 3) := by decide +kernel
theorem dX2_ruleMile_93 : decode cX2_ruleMile 93 = .ok (.goto (-61), 3) := by decide +kernel
theorem dX2_ruleMile_96 : decode cX2_ruleMile 96 = .ok (.return_, 1) := by decide +kernel
theorem dX2_quickest_0 : decode cX2_quickest 0 = .ok (.aload_n 0, 1) := by decide +kernel
theorem dX2_quickest_1 : decode cX2_quickest 1 = .ok (.getfield 33, 3) := by decide +kernel
theorem dX2_quickest_4 : decode cX2_quickest 4 = .ok (.getfield 78, 3) := by decide +kernel
theorem dX2_quickest_7 : decode cX2_quickest 7 = .ok (.istore_n 2, 1) := by decide +kernel
theorem dX2_quickest_8 : decode cX2_quickest 8 = .ok (.aload_n 0, 1) := by decide +kernel
theorem dX2_quickest_9 : decode cX2_quickest 9 = .ok (.getfield 30, 3) := by decide +kernel
theorem dX2_quickest_12 : decode cX2_quickest 12 = .ok (.iconst 0, 1) := by decide +kernel
theorem dX2_quickest_13 : decode cX2_quickest 13 = .ok (.aaload, 1) := by decide +kernel
theorem dX2_quickest_14 : decode cX2_quickest 14 = .ok (.invokestatic 62, 3) := by decide +kernel
theorem dX2_quickest_17 : decode cX2_quickest 17 = .ok (.aload_n 0, 1) := by decide +kernel
theorem dX2_quickest_18 : decode cX2_quickest 18 = .ok (.getfield 30, 3) := by decide +kernel
theorem dX2_quickest_21 : decode cX2_quickest 21 = .ok (.iconst 0, 1) := by decide +kernel
theorem dX2_quickest_22 : decode cX2_quickest 22 = .ok (.aaload, 1) := by decide +kernel
theorem dX2_quickest_23 : decode cX2_quickest 23 = .ok (.iload_n 1, 1) := by decide +kernel
theorem dX2_quickest_24 : decode cX2_quickest 24 = .ok (.invokestatic 74, 3) := by decide +kernel
theorem dX2_quickest_27 : decode cX2_quickest 27 = .ok (.iconst 0, 1) := by decide +kernel
theorem dX2_quickest_28 : decode cX2_quickest 28 = .ok (.istore_n 3, 1) := by decide +kernel
theorem dX2_quickest_29 : decode cX2_quickest 29 = .ok (.iload_n 3, 1) := by decide +kernel
theorem dX2_quickest_30 : decode cX2_quickest 30 = .ok (.iload_n 2, 1) := by decide +kernel
theorem dX2_quickest_31 : decode cX2_quickest 31 = .ok (.if_icmp .ge 14, 3) := by decide +kernel
theorem dX2_quickest_34 : decode cX2_quickest 34 = .ok (.aload_n 0, 1) := by decide +kernel
theorem dX2_quickest_35 : decode cX2_quickest 35 = .ok (.iload_n 3, 1) := by decide +kernel
theorem dX2_quickest_36 : decode cX2_quickest 36 = .ok (.invokevirtual 109, 3) := by decide +kernel
theorem dX2_quickest_39 : decode cX2_quickest 39 = .ok (.iinc 3 1, 3) := by decide +kernel
theorem dX2_quickest_42 : decode cX2_quickest 42 = .ok (.goto (-13), 3) := by decide +kernel
theorem dX2_quickest_45 : decode cX2_quickest 45 = .ok (.aload_n 0, 1) := by decide +kernel
theorem dX2_quickest_46 : decode cX2_quickest 46 = .ok (.getfield 30, 3) := by decide +kernel
theorem dX2_quickest_49 : decode cX2_quickest 49 = .ok (.iload_n 2, 1) := by decide +kernel
theorem dX2_quickest_50 : decode cX2_quickest 50 = .ok (.aaload, 1) := by decide +kernel
theorem dX2_quickest_51 : decode cX2_quickest 51 = .ok (.iload_n 1, 1) := by decide +kernel
theorem dX2_quickest_52 : decode cX2_quickest 52 = .ok (.invokestatic 113, 3) := by decide +kernel
theorem dX2_quickest_55 : decode cX2_quickest 55 = .ok (.istore_n 3, 1) := by decide +kernel
theorem dX2_quickest_56 : decode cX2_quickest 56 = .ok (.iload_n 3, 1) := by decide +kernel
theorem dX2_quickest_57 : decode cX2_quickest 57 = .ok (.bipush (-4), 2) := by decide +kernel
theorem dX2_quickest_59 : decode cX2_quickest 59 = .ok (.if_icmp .ne 8, 3) := by decide +kernel
theorem dX2_quickest_62 : decode cX2_quickest 62 = .ok (.bipush (-4), 2) := by decide +kernel
theorem dX2_quickest_64 : decode cX2_quickest 64 = .ok (.goto 6, 3) := by decide +kernel
theorem dX2_quickest_67 : decode cX2_quickest 67 = .ok (.iload_n 3, 1) := by decide +kernel
theorem dX2_quickest_68 : decode cX2_quickest 68 = .ok (.iload_n 1, 1) := by decide +kernel
theorem dX2_quickest_69 : decode cX2_quickest 69 = .ok (.isub, 1) := by decide +kernel
theorem dX2_quickest_70 : decode cX2_quickest 70 = .ok (.ireturn, 1) := by decide +kernel
theorem dX2_firstPace_0 : decode cX2_firstPace 0 = .ok (.aload_n 0, 1) := by decide +kernel
theorem dX2_firstPace_1 : decode cX2_firstPace 1 = .ok (.getfield 30, 3) := by decide +kernel
theorem dX2_firstPace_4 : decode cX2_firstPace 4 = .ok (.aload_n 0, 1) := by decide +kernel
theorem dX2_firstPace_5 : decode cX2_firstPace 5 = .ok (.getfield 33, 3) := by decide +kernel
theorem dX2_firstPace_8 : decode cX2_firstPace 8 = .ok (.getfield 78, 3) := by decide +kernel
theorem dX2_firstPace_11 : decode cX2_firstPace 11 = .ok (.aaload, 1) := by decide +kernel
theorem dX2_firstPace_12 : decode cX2_firstPace 12 = .ok (.invokestatic 62, 3) := by decide +kernel
theorem dX2_firstPace_15 : decode cX2_firstPace 15 = .ok (.aload_n 0, 1) := by decide +kernel
theorem dX2_firstPace_16 : decode cX2_firstPace 16 = .ok (.getfield 30, 3) := by decide +kernel
theorem dX2_firstPace_19 : decode cX2_firstPace 19 = .ok (.aload_n 0, 1) := by decide +kernel
theorem dX2_firstPace_20 : decode cX2_firstPace 20 = .ok (.getfield 33, 3) := by decide +kernel
theorem dX2_firstPace_23 : decode cX2_firstPace 23 = .ok (.getfield 78, 3) := by decide +kernel
theorem dX2_firstPace_26 : decode cX2_firstPace 26 = .ok (.aaload, 1) := by decide +kernel
theorem dX2_firstPace_27 : decode cX2_firstPace 27 = .ok (.iload_n 1, 1) := by decide +kernel
theorem dX2_firstPace_28 : decode cX2_firstPace 28 = .ok (.iload_n 2, 1) := by decide +kernel
theorem dX2_firstPace_29 : decode cX2_firstPace 29 = .ok (.iadd, 1) := by decide +kernel
theorem dX2_firstPace_30 : decode cX2_firstPace 30 = .ok (.invokestatic 74, 3) := by decide +kernel
theorem dX2_firstPace_33 : decode cX2_firstPace 33 = .ok (.aload_n 0, 1) := by decide +kernel
theorem dX2_firstPace_34 : decode cX2_firstPace 34 = .ok (.invokevirtual 117, 3) := by decide +kernel
theorem dX2_firstPace_37 : decode cX2_firstPace 37 = .ok (.iload_n 1, 1) := by decide +kernel
theorem dX2_firstPace_38 : decode cX2_firstPace 38 = .ok (.istore 4, 2) := by decide +kernel
theorem dX2_firstPace_40 : decode cX2_firstPace 40 = .ok (.bipush (-4), 2) := by decide +kernel
theorem dX2_firstPace_42 : decode cX2_firstPace 42 = .ok (.istore 5, 2) := by decide +kernel
theorem dX2_firstPace_44 : decode cX2_firstPace 44 = .ok (.iconst 0, 1) := by decide +kernel
theorem dX2_firstPace_45 : decode cX2_firstPace 45 = .ok (.istore 6, 2) := by decide +kernel
theorem dX2_firstPace_47 : decode cX2_firstPace 47 = .ok (.iload 6, 2) := by decide +kernel
theorem dX2_firstPace_49 : decode cX2_firstPace 49 = .ok (.iload_n 3, 1) := by decide +kernel
theorem dX2_firstPace_50 : decode cX2_firstPace 50 = .ok (.if_icmp .gt 41, 3) := by decide +kernel
theorem dX2_firstPace_53 : decode cX2_firstPace 53 = .ok (.iload 6, 2) := by decide +kernel
theorem dX2_firstPace_55 : decode cX2_firstPace 55 = .ok (.aload_n 0, 1) := by decide +kernel
theorem dX2_firstPace_56 : decode cX2_firstPace 56 = .ok (.getfield 33, 3) := by decide +kernel
theorem dX2_firstPace_59 : decode cX2_firstPace 59 = .ok (.getfield 78, 3) := by decide +kernel
theorem dX2_firstPace_62 : decode cX2_firstPace 62 = .ok (.if_icmp .ge 29, 3) := by decide +kernel
theorem dX2_firstPace_65 : decode cX2_firstPace 65 = .ok (.aload_n 0, 1) := by decide +kernel
theorem dX2_firstPace_66 : decode cX2_firstPace 66 = .ok (.iload 6, 2) := by decide +kernel
theorem dX2_firstPace_68 : decode cX2_firstPace 68 = .ok (.iload 4, 2) := by decide +kernel
theorem dX2_firstPace_70 : decode cX2_firstPace 70 = .ok (.invokevirtual 120, 3) := by decide +kernel
theorem dX2_firstPace_73 : decode cX2_firstPace 73 = .ok (.istore 5, 2) := by decide +kernel
theorem dX2_firstPace_75 : decode cX2_firstPace 75 = .ok (.iload 4, 2) := by decide +kernel
theorem dX2_firstPace_77 : decode cX2_firstPace 77 = .ok (.iload 5, 2) := by decide +kernel
theorem dX2_firstPace_79 : decode cX2_firstPace 79 = .ok (.invokestatic 123, 3) := by decide +kernel
theorem dX2_firstPace_82 : decode cX2_firstPace 82 = .ok (.iadd, 1) := by decide +kernel
theorem dX2_firstPace_83 : decode cX2_firstPace 83 = .ok (.istore 4, 2) := by decide +kernel
theorem dX2_firstPace_85 : decode cX2_firstPace 85 = .ok (.iinc 6 1, 3) := by decide +kernel
theorem dX2_firstPace_88 : decode cX2_firstPace 88 = .ok (.goto (-41), 3) := by decide +kernel
theorem dX2_firstPace_91 : decode cX2_firstPace 91 = .ok (.iload 5, 2) := by decide +kernel
theorem dX2_firstPace_93 : decode cX2_firstPace 93 = .ok (.ireturn, 1) := by decide +kernel
theorem dX2_findStarts_0 : decode cX2_findStarts 0 = .ok (.iconst 0, 1) := by decide +kernel
theorem dX2_findStarts_1 : decode cX2_findStarts 1 = .ok (.istore_n 2, 1) := by decide +kernel
theorem dX2_findStarts_2 : decode cX2_findStarts 2 = .ok (.iload_n 2, 1) := by decide +kernel
theorem dX2_findStarts_3 : decode cX2_findStarts 3 = .ok (.bipush 38, 2) := by decide +kernel
theorem dX2_findStarts_5 : decode cX2_findStarts 5 = .ok (.if_icmp .ge 26, 3) := by decide +kernel
theorem dX2_findStarts_8 : decode cX2_findStarts 8 = .ok (.aload_n 0, 1) := by decide +kernel
theorem dX2_findStarts_9 : decode cX2_findStarts 9 = .ok (.getfield 30, 3) := by decide +kernel
theorem dX2_findStarts_12 : decode cX2_findStarts 12 = .ok (.aload_n 0, 1) := by decide +kernel
theorem dX2_findStarts_13 : decode cX2_findStarts 13 = .ok (.getfield 33, 3) := by decide +kernel
theorem dX2_findStarts_16 : decode cX2_findStarts 16 = .ok (.getfield 78, 3) := by decide +kernel
theorem dX2_findStarts_19 : decode cX2_findStarts 19 = .ok (.aaload, 1) := by decide +kernel
theorem dX2_findStarts_20 : decode cX2_findStarts 20 = .ok (.iload_n 2, 1) := by decide +kernel
theorem dX2_findStarts_21 : decode cX2_findStarts 21 = .ok (.ldc2_w 126, 3) := by decide +kernel
theorem dX2_findStarts_24 : decode cX2_findStarts 24 = .ok (.lastore, 1) := by decide +kernel
theorem dX2_findStarts_25 : decode cX2_findStarts 25 = .ok (.iinc 2 1, 3) := by decide +kernel
theorem dX2_findStarts_28 : decode cX2_findStarts 28 = .ok (.goto (-26), 3) := by decide +kernel
theorem dX2_findStarts_31 : decode cX2_findStarts 31 = .ok (.aload_n 0, 1) := by decide +kernel
theorem dX2_findStarts_32 : decode cX2_findStarts 32 = .ok (.invokevirtual 117, 3) := by decide +kernel
theorem dX2_findStarts_35 : decode cX2_findStarts 35 = .ok (.iconst 0, 1) := by decide +kernel
theorem dX2_findStarts_36 : decode cX2_findStarts 36 = .ok (.istore_n 2, 1) := by decide +kernel
theorem dX2_findStarts_37 : decode cX2_findStarts 37 = .ok (.iload_n 2, 1) := by decide +kernel
theorem dX2_findStarts_38 : decode cX2_findStarts 38 = .ok (.aload_n 1, 1) := by decide +kernel
theorem dX2_findStarts_39 : decode cX2_findStarts 39 = .ok (.arraylength, 1) := by decide +kernel
theorem dX2_findStarts_40 : decode cX2_findStarts 40 = .ok (.if_icmp .ge 44, 3) := by decide +kernel
theorem dX2_findStarts_43 : decode cX2_findStarts 43 = .ok (.iload_n 2, 1) := by decide +kernel
theorem dX2_findStarts_44 : decode cX2_findStarts 44 = .ok (.bipush 38, 2) := by decide +kernel
theorem dX2_findStarts_46 : decode cX2_findStarts 46 = .ok (.if_icmp .ge 38, 3) := by decide +kernel
theorem dX2_findStarts_49 : decode cX2_findStarts 49 = .ok (.iload_n 2, 1) := by decide +kernel
theorem dX2_findStarts_50 : decode cX2_findStarts 50 = .ok (.bipush 22, 2) := by decide +kernel
theorem dX2_findStarts_52 : decode cX2_findStarts 52 = .ok (.if_icmp .ge 9, 3) := by decide +kernel
theorem dX2_findStarts_55 : decode cX2_findStarts 55 = .ok (.ldc2_w 126, 3) := by decide +kernel
theorem dX2_findStarts_58 : decode cX2_findStarts 58 = .ok (.goto 6, 3) := by decide +kernel
theorem dX2_findStarts_61 : decode cX2_findStarts 61 = .ok (.ldc2_w 128, 3) := by decide +kernel
theorem dX2_findStarts_64 : decode cX2_findStarts 64 = .ok (.lstore_n 3, 1) := by decide +kernel
theorem dX2_findStarts_65 : decode cX2_findStarts 65 = .ok (.aload_n 1, 1) := by decide +kernel
theorem dX2_findStarts_66 : decode cX2_findStarts 66 = .ok (.iload_n 2, 1) := by decide +kernel
theorem dX2_findStarts_67 : decode cX2_findStarts 67 = .ok (.aload_n 0, 1) := by decide +kernel
theorem dX2_findStarts_68 : decode cX2_findStarts 68 = .ok (.getfield 30, 3) := by decide +kernel
theorem dX2_findStarts_71 : decode cX2_findStarts 71 = .ok (.iconst 0, 1) := by decide +kernel
theorem dX2_findStarts_72 : decode cX2_findStarts 72 = .ok (.aaload, 1) := by decide +kernel
theorem dX2_findStarts_73 : decode cX2_findStarts 73 = .ok (.iload_n 2, 1) := by decide +kernel
theorem dX2_findStarts_74 : decode cX2_findStarts 74 = .ok (.laload, 1) := by decide +kernel
theorem dX2_findStarts_75 : decode cX2_findStarts 75 = .ok (.lload_n 3, 1) := by decide +kernel
theorem dX2_findStarts_76 : decode cX2_findStarts 76 = .ok (.land, 1) := by decide +kernel
theorem dX2_findStarts_77 : decode cX2_findStarts 77 = .ok (.lastore, 1) := by decide +kernel
theorem dX2_findStarts_78 : decode cX2_findStarts 78 = .ok (.iinc 2 1, 3) := by decide +kernel
theorem dX2_findStarts_81 : decode cX2_findStarts 81 = .ok (.goto (-44), 3) := by decide +kernel
theorem dX2_findStarts_84 : decode cX2_findStarts 84 = .ok (.return_, 1) := by decide +kernel
theorem dX2_slowest_0 : decode cX2_slowest 0 = .ok (.iconst 0, 1) := by decide +kernel
theorem dX2_slowest_1 : decode cX2_slowest 1 = .ok (.istore_n 3, 1) := by decide +kernel
theorem dX2_slowest_2 : decode cX2_slowest 2 = .ok (.iload_n 3, 1) := by decide +kernel
theorem dX2_slowest_3 : decode cX2_slowest 3 = .ok (.getstatic 24, 3) := by decide +kernel
theorem dX2_slowest_6 : decode cX2_slowest 6 = .ok (.arraylength, 1) := by decide +kernel
theorem dX2_slowest_7 : decode cX2_slowest 7 = .ok (.if_icmp .ge 72, 3) := by decide +kernel
theorem dX2_slowest_10 : decode cX2_slowest 10 = .ok (.aload_n 0, 1) := by decide +kernel
theorem dX2_slowest_11 : decode cX2_slowest 11 = .ok (.getfield 27, 3) := by decide +kernel
theorem dX2_slowest_14 : decode cX2_slowest 14 = .ok (.iload_n 1, 1) := by decide +kernel
theorem dX2_slowest_15 : decode cX2_slowest 15 = .ok (.getstatic 24, 3) := by decide +kernel
theorem dX2_slowest_18 : decode cX2_slowest 18 = .ok (.arraylength, 1) := by decide +kernel
theorem dX2_slowest_19 : decode cX2_slowest 19 = .ok (.imul, 1) := by decide +kernel
theorem dX2_slowest_20 : decode cX2_slowest 20 = .ok (.iload_n 3, 1) := by decide +kernel
theorem dX2_slowest_21 : decode cX2_slowest 21 = .ok (.iadd, 1) := by decide +kernel
theorem dX2_slowest_22 : decode cX2_slowest 22 = .ok (.iaload, 1) := by decide +kernel
theorem dX2_slowest_23 : decode cX2_slowest 23 = .ok (.istore 4, 2) := by decide +kernel
theorem dX2_slowest_25 : decode cX2_slowest 25 = .ok (.iload 4, 2) := by decide +kernel
theorem dX2_slowest_27 : decode cX2_slowest 27 = .ok (.bipush 100, 2) := by decide +kernel
theorem dX2_slowest_29 : decode cX2_slowest 29 = .ok (.if_icmp .ge 44, 3) := by decide +kernel
theorem dX2_slowest_32 : decode cX2_slowest 32 = .ok (.aload_n 0, 1) := by decide +kernel
theorem dX2_slowest_33 : decode cX2_slowest 33 = .ok (.getfield 21, 3) := by decide +kernel
theorem dX2_slowest_36 : decode cX2_slowest 36 = .ok (.iload 4, 2) := by decide +kernel
theorem dX2_slowest_38 : decode cX2_slowest 38 = .ok (.aaload, 1) := by decide +kernel
theorem dX2_slowest_39 : decode cX2_slowest 39 = .ok (.iload_n 2, 1) := by decide +kernel
theorem dX2_slowest_40 : decode cX2_slowest 40 = .ok (.invokestatic 130, 3) := by decide +kernel
theorem dX2_slowest_43 : decode cX2_slowest 43 = .ok (.ifCond .eq 30, 3) := by decide +kernel
theorem dX2_slowest_46 : decode cX2_slowest 46 = .ok (.aload_n 0, 1) := by decide +kernel
theorem dX2_slowest_47 : decode cX2_slowest 47 = .ok (.getfield 30, 3) := by decide +kernel
theorem dX2_slowest_50 : decode cX2_slowest 50 = .ok (.iload_n 1, 1) := by decide +kernel
theorem dX2_slowest_51 : decode cX2_slowest 51 = .ok (.iconst 1, 1) := by decide +kernel
theorem dX2_slowest_52 : decode cX2_slowest 52 = .ok (.iadd, 1) := by decide +kernel
theorem dX2_slowest_53 : decode cX2_slowest 53 = .ok (.aaload, 1) := by decide +kernel
theorem dX2_slowest_54 : decode cX2_slowest 54 = .ok (.iload_n 2, 1) := by decide +kernel
theorem dX2_slowest_55 : decode cX2_slowest 55 = .ok (.getstatic 134, 3) := by decide +kernel
theorem dX2_slowest_58 : decode cX2_slowest 58 = .ok (.iload_n 3, 1) := by decide +kernel
theorem dX2_slowest_59 : decode cX2_slowest 59 = .ok (.iaload, 1) := by decide +kernel
theorem dX2_slowest_60 : decode cX2_slowest 60 = .ok (.iadd, 1) := by decide +kernel
theorem dX2_slowest_61 : decode cX2_slowest 61 = .ok (.invokestatic 130, 3) := by decide +kernel
theorem dX2_slowest_64 : decode cX2_slowest 64 = .ok (.ifCond .eq 9, 3) := by decide +kernel
theorem dX2_slowest_67 : decode cX2_slowest 67 = .ok (.getstatic 24, 3) := by decide +kernel
theorem dX2_slowest_70 : decode cX2_slowest 70 = .ok (.iload_n 3, 1) := by decide +kernel
theorem dX2_slowest_71 : decode cX2_slowest 71 = .ok (.iaload, 1) := by decide +kernel
theorem dX2_slowest_72 : decode cX2_slowest 72 = .ok (.ireturn, 1) := by decide +kernel
theorem dX2_slowest_73 : decode cX2_slowest 73 = .ok (.iinc 3 1, 3) := by decide +kernel
theorem dX2_slowest_76 : decode cX2_slowest 76 = .ok (.goto (-74), 3) := by decide +kernel
theorem dX2_slowest_79 : decode cX2_slowest 79 = .ok (.bipush (-4), 2) := by decide +kernel
theorem dX2_slowest_81 : decode cX2_slowest 81 = .ok (.ireturn, 1) := by decide +kernel
theorem dX2_goOn_0 : decode cX2_goOn 0 = .ok (.aload_n 0, 1) := by decide +kernel
theorem dX2_goOn_1 : decode cX2_goOn 1 = .ok (.getfield 30, 3) := by decide +kernel
theorem dX2_goOn_4 : decode cX2_goOn 4 = .ok (.iload_n 1, 1) := by decide +kernel
theorem dX2_goOn_5 : decode cX2_goOn 5 = .ok (.iconst 1, 1) := by decide +kernel
theorem dX2_goOn_6 : decode cX2_goOn 6 = .ok (.iadd, 1) := by decide +kernel
theorem dX2_goOn_7 : decode cX2_goOn 7 = .ok (.aaload, 1) := by decide +kernel
theorem dX2_goOn_8 : decode cX2_goOn 8 = .ok (.invokestatic 62, 3) := by decide +kernel
theorem dX2_goOn_11 : decode cX2_goOn 11 = .ok (.iconst 0, 1) := by decide +kernel
theorem dX2_goOn_12 : decode cX2_goOn 12 = .ok (.istore_n 2, 1) := by decide +kernel
theorem dX2_goOn_13 : decode cX2_goOn 13 = .ok (.iload_n 2, 1) := by decide +kernel
theorem dX2_goOn_14 : decode cX2_goOn 14 = .ok (.bipush 38, 2) := by decide +kernel
theorem dX2_goOn_16 : decode cX2_goOn 16 = .ok (.if_icmp .ge 28, 3) := by decide +kernel
theorem dX2_goOn_19 : decode cX2_goOn 19 = .ok (.aload_n 0, 1) := by decide +kernel
theorem dX2_goOn_20 : decode cX2_goOn 20 = .ok (.getfield 30, 3) := by decide +kernel
theorem dX2_goOn_23 : decode cX2_goOn 23 = .ok (.iload_n 1, 1) := by decide +kernel
theorem dX2_goOn_24 : decode cX2_goOn 24 = .ok (.aaload, 1) := by decide +kernel
theorem dX2_goOn_25 : decode cX2_goOn 25 = .ok (.iload_n 2, 1) := by decide +kernel
theorem dX2_goOn_26 : decode cX2_goOn 26 = .ok (.laload, 1) := by decide +kernel
theorem dX2_goOn_27 : decode cX2_goOn 27 = .ok (.lconst 0, 1) := by decide +kernel
theorem dX2_goOn_28 : decode cX2_goOn 28 = .ok (.lcmp, 1) := by decide +kernel
theorem dX2_goOn_29 : decode cX2_goOn 29 = .ok (.ifCond .eq 9, 3) := by decide +kernel
theorem dX2_goOn_32 : decode cX2_goOn 32 = .ok (.aload_n 0, 1) := by decide +kernel
theorem dX2_goOn_33 : decode cX2_goOn 33 = .ok (.iload_n 1, 1) := by decide +kernel
theorem dX2_goOn_34 : decode cX2_goOn 34 = .ok (.iload_n 2, 1) := by decide +kernel
theorem dX2_goOn_35 : decode cX2_goOn 35 = .ok (.invokevirtual 137, 3) := by decide +kernel
theorem dX2_goOn_38 : decode cX2_goOn 38 = .ok (.iinc 2 1, 3) := by decide +kernel
theorem dX2_goOn_41 : decode cX2_goOn 41 = .ok (.goto (-28), 3) := by decide +kernel
theorem dX2_goOn_44 : decode cX2_goOn 44 = .ok (.return_, 1) := by decide +kernel
theorem dX2_moveLater_0 : decode cX2_moveLater 0 = .ok (.iconst 0, 1) := by decide +kernel
theorem dX2_moveLater_1 : decode cX2_moveLater 1 = .ok (.istore_n 3, 1) := by decide +kernel
theorem dX2_moveLater_2 : decode cX2_moveLater 2 = .ok (.iload_n 3, 1) := by decide +kernel
theorem dX2_moveLater_3 : decode cX2_moveLater 3 = .ok (.getstatic 24, 3) := by decide +kernel
theorem dX2_moveLater_6 : decode cX2_moveLater 6 = .ok (.arraylength, 1) := by decide +kernel
theorem dX2_moveLater_7 : decode cX2_moveLater 7 = .ok (.if_icmp .ge 106, 3) := by decide +kernel
theorem dX2_moveLater_10 : decode cX2_moveLater 10 = .ok (.aload_n 0, 1) := by decide +kernel
theorem dX2_moveLater_11 : decode cX2_moveLater 11 = .ok (.getfield 27, 3) := by decide +kernel
theorem dX2_moveLater_14 : decode cX2_moveLater 14 = .ok (.iload_n 1, 1) := by decide +kernel
theorem dX2_moveLater_15 : decode cX2_moveLater 15 = .ok (.getstatic 24, 3) := by decide +kernel
theorem dX2_moveLater_18 : decode cX2_moveLater 18 = .ok (.arraylength, 1) := by decide +kernel
theorem dX2_moveLater_19 : decode cX2_moveLater 19 = .ok (.imul, 1) := by decide +kernel
theorem dX2_moveLater_20 : decode cX2_moveLater 20 = .ok (.iload_n 3, 1) := by decide +kernel
theorem dX2_moveLater_21 : decode cX2_moveLater 21 = .ok (.iadd, 1) := by decide +kernel
theorem dX2_moveLater_22 : decode cX2_moveLater 22 = .ok (.iaload, 1) := by decide +kernel
theorem dX2_moveLater_23 : decode cX2_moveLater 23 = .ok (.istore 4, 2) := by decide +kernel
theorem dX2_moveLater_25 : decode cX2_moveLater 25 = .ok (.iload 4, 2) := by decide +kernel
theorem dX2_moveLater_27 : decode cX2_moveLater 27 = .ok (.bipush 100, 2) := by decide +kernel
theorem dX2_moveLater_29 : decode cX2_moveLater 29 = .ok (.if_icmp .ge 78, 3) := by decide +kernel
theorem dX2_moveLater_32 : decode cX2_moveLater 32 = .ok (.aload_n 0, 1) := by decide +kernel
theorem dX2_moveLater_33 : decode cX2_moveLater 33 = .ok (.getfield 30, 3) := by decide +kernel
theorem dX2_moveLater_36 : decode cX2_moveLater 36 = .ok (.iload_n 1, 1) := by decide +kernel
theorem dX2_moveLater_37 : decode cX2_moveLater 37 = .ok (.aaload, 1) := by decide +kernel
theorem dX2_moveLater_38 : decode cX2_moveLater 38 = .ok (.iload_n 2, 1) := by decide +kernel
theorem dX2_moveLater_39 : decode cX2_moveLater 39 = .ok (.laload, 1) := by decide +kernel
theorem dX2_moveLater_40 : decode cX2_moveLater 40 = .ok (.aload_n 0, 1) := by decide +kernel
theorem dX2_moveLater_41 : decode cX2_moveLater 41 = .ok (.getfield 21, 3) := by decide +kernel
theorem dX2_moveLater_44 : decode cX2_moveLater 44 = .ok (.iload 4, 2) := by decide +kernel
theorem dX2_moveLater_46 : decode cX2_moveLater 46 = .ok (.aaload, 1) := by decide +kernel
theorem dX2_moveLater_47 : decode cX2_moveLater 47 = .ok (.iload_n 2, 1) := by decide +kernel
theorem dX2_moveLater_48 : decode cX2_moveLater 48 = .ok (.laload, 1) := by decide +kernel
theorem dX2_moveLater_49 : decode cX2_moveLater 49 = .ok (.land, 1) := by decide +kernel
theorem dX2_moveLater_50 : decode cX2_moveLater 50 = .ok (.lstore 5, 2) := by decide +kernel
theorem dX2_moveLater_52 : decode cX2_moveLater 52 = .ok (.aload_n 0, 1) := by decide +kernel
theorem dX2_moveLater_53 : decode cX2_moveLater 53 = .ok (.getfield 30, 3) := by decide +kernel
theorem dX2_moveLater_56 : decode cX2_moveLater 56 = .ok (.iload_n 1, 1) := by decide +kernel
theorem dX2_moveLater_57 : decode cX2_moveLater 57 = .ok (.iconst 1, 1) := by decide +kernel
theorem dX2_moveLater_58 : decode cX2_moveLater 58 = .ok (.iadd, 1) := by decide +kernel
theorem dX2_moveLater_59 : decode cX2_moveLater 59 = .ok (.aaload, 1) := by decide +kernel
theorem dX2_moveLater_60 : decode cX2_moveLater 60 = .ok (.iload_n 2, 1) := by decide +kernel
theorem dX2_moveLater_61 : decode cX2_moveLater 61 = .ok (.dup2, 1) := by decide +kernel
theorem dX2_moveLater_62 : decode cX2_moveLater 62 = .ok (.laload, 1) := by decide +kernel
theorem dX2_moveLater_63 : decode cX2_moveLater 63 = .ok (.lload 5, 2) := by decide +kernel
theorem dX2_moveLater_65 : decode cX2_moveLater 65 = .ok (.getstatic 134, 3) := by decide +kernel
theorem dX2_moveLater_68 : decode cX2_moveLater 68 = .ok (.iload_n 3, 1) := by decide +kernel
theorem dX2_moveLater_69 : decode cX2_moveLater 69 = .ok (.iaload, 1) := by decide +kernel
theorem dX2_moveLater_70 : decode cX2_moveLater 70 = .ok (.lshl, 1) := by decide +kernel
theorem dX2_moveLater_71 : decode cX2_moveLater 71 = .ok (.lor, 1) := by decide +kernel
theorem dX2_moveLater_72 : decode cX2_moveLater 72 = .ok (.lastore, 1) := by decide +kernel
theorem dX2_moveLater_73 : decode cX2_moveLater 73 = .ok (.iload_n 2, 1) := by decide +kernel
theorem dX2_moveLater_74 : decode cX2_moveLater 74 = .ok (.iconst 1, 1) := by decide +kernel
theorem dX2_moveLater_75 : decode cX2_moveLater 75 = .ok (.iadd, 1) := by decide +kernel
theorem dX2_moveLater_76 : decode cX2_moveLater 76 = .ok (.bipush 38, 2) := by decide +kernel
theorem dX2_moveLater_78 : decode cX2_moveLater 78 = .ok (.if_icmp .ge 29, 3) := by decide +kernel
theorem dX2_moveLater_81 : decode cX2_moveLater 81 = .ok (.aload_n 0, 1) := by decide +kernel
theorem dX2_moveLater_82 : decode cX2_moveLater 82 = .ok (.getfield 30, 3) := by decide +kernel
theorem dX2_moveLater_85 : decode cX2_moveLater 85 = .ok (.iload_n 1, 1) := by decide +kernel
theorem dX2_moveLater_86 : decode cX2_moveLater 86 = .ok (.iconst 1, 1) := by decide +kernel
theorem dX2_moveLater_87 : decode cX2_moveLater 87 = .ok (.iadd, 1) := by decide +kernel
theorem dX2_moveLater_88 : decode cX2_moveLater 88 = .ok (.aaload, 1) := by decide +kernel
theorem dX2_moveLater_89 : decode cX2_moveLater 89 = .ok (.iload_n 2, 1) := by decide +kernel
theorem dX2_moveLater_90 : decode cX2_moveLater 90 = .ok (.iconst 1, 1) := by decide +kernel
theorem dX2_moveLater_91 : decode cX2_moveLater 91 = .ok (.iadd, 1) := by decide +kernel
theorem dX2_moveLater_92 : decode cX2_moveLater 92 = .ok (.dup2, 1) := by decide +kernel
theorem dX2_moveLater_93 : decode cX2_moveLater 93 = .ok (.laload, 1) := by decide +kernel
theorem dX2_moveLater_94 : decode cX2_moveLater 94 = .ok (.lload 5, 2) := by decide +kernel
theorem dX2_moveLater_96 : decode cX2_moveLater 96 = .ok (.bipush 64, 2) := by decide +kernel
theorem dX2_moveLater_98 : decode cX2_moveLater 98 = .ok (.getstatic 134, 3) := by decide +kernel
theorem dX2_moveLater_101 : decode cX2_moveLater 101 = .ok (.iload_n 3, 1) := by decide +kernel
theorem dX2_moveLater_102 : decode cX2_moveLater 102 = .ok (.iaload, 1) := by decide +kernel
theorem dX2_moveLater_103 : decode cX2_moveLater 103 = .ok (.isub, 1) := by decide +kernel
theorem dX2_moveLater_104 : decode cX2_moveLater 104 = .ok (.lushr, 1) := by decide +kernel
theorem dX2_moveLater_105 : decode cX2_moveLater 105 = .ok (.lor, 1) := by decide +kernel
theorem dX2_moveLater_106 : decode cX2_moveLater 106 = .ok (.lastore, 1) := by decide +kernel
theorem dX2_moveLater_107 : decode cX2_moveLater 107 = .ok (.iinc 3 1, 3) := by decide +kernel
theorem dX2_moveLater_110 : decode cX2_moveLater 110 = .ok (.goto (-108), 3) := by decide +kernel
theorem dX2_moveLater_113 : decode cX2_moveLater 113 = .ok (.return_, 1) := by decide +kernel
theorem dX2_goBack_0 : decode cX2_goBack 0 = .ok (.aload_n 0, 1) := by decide +kernel
theorem dX2_goBack_1 : decode cX2_goBack 1 = .ok (.getfield 33, 3) := by decide +kernel
theorem dX2_goBack_4 : decode cX2_goBack 4 = .ok (.getfield 78, 3) := by decide +kernel
theorem dX2_goBack_7 : decode cX2_goBack 7 = .ok (.iconst 1, 1) := by decide +kernel
theorem dX2_goBack_8 : decode cX2_goBack 8 = .ok (.isub, 1) := by decide +kernel
theorem dX2_goBack_9 : decode cX2_goBack 9 = .ok (.istore_n 1, 1) := by decide +kernel
theorem dX2_goBack_10 : decode cX2_goBack 10 = .ok (.iload_n 1, 1) := by decide +kernel
theorem dX2_goBack_11 : decode cX2_goBack 11 = .ok (.ifCond .lt 73, 3) := by decide +kernel
theorem dX2_goBack_14 : decode cX2_goBack 14 = .ok (.iconst 0, 1) := by decide +kernel
theorem dX2_goBack_15 : decode cX2_goBack 15 = .ok (.istore_n 2, 1) := by decide +kernel
theorem dX2_goBack_16 : decode cX2_goBack 16 = .ok (.iload_n 2, 1) := by decide +kernel
theorem dX2_goBack_17 : decode cX2_goBack 17 = .ok (.bipush 38, 2) := by decide +kernel
theorem dX2_goBack_19 : decode cX2_goBack 19 = .ok (.if_icmp .ge 59, 3) := by decide +kernel
theorem dX2_goBack_22 : decode cX2_goBack 22 = .ok (.iload_n 2, 1) := by decide +kernel
theorem dX2_goBack_23 : decode cX2_goBack 23 = .ok (.iconst 1, 1) := by decide +kernel
theorem dX2_goBack_24 : decode cX2_goBack 24 = .ok (.iadd, 1) := by decide +kernel
theorem dX2_goBack_25 : decode cX2_goBack 25 = .ok (.bipush 38, 2) := by decide +kernel
theorem dX2_goBack_27 : decode cX2_goBack 27 = .ok (.if_icmp .ge 18, 3) := by decide +kernel
theorem dX2_goBack_30 : decode cX2_goBack 30 = .ok (.aload_n 0, 1) := by decide +kernel
theorem dX2_goBack_31 : decode cX2_goBack 31 = .ok (.getfield 30, 3) := by decide +kernel
theorem dX2_goBack_34 : decode cX2_goBack 34 = .ok (.iload_n 1, 1) := by decide +kernel
theorem dX2_goBack_35 : decode cX2_goBack 35 = .ok (.iconst 1, 1) := by decide +kernel
theorem dX2_goBack_36 : decode cX2_goBack 36 = .ok (.iadd, 1) := by decide +kernel
theorem dX2_goBack_37 : decode cX2_goBack 37 = .ok (.aaload, 1) := by decide +kernel
theorem dX2_goBack_38 : decode cX2_goBack 38 = .ok (.iload_n 2, 1) := by decide +kernel
theorem dX2_goBack_39 : decode cX2_goBack 39 = .ok (.iconst 1, 1) := by decide +kernel
theorem dX2_goBack_40 : decode cX2_goBack 40 = .ok (.iadd, 1) := by decide +kernel
theorem dX2_goBack_41 : decode cX2_goBack 41 = .ok (.laload, 1) := by decide +kernel
theorem dX2_goBack_42 : decode cX2_goBack 42 = .ok (.goto 4, 3) := by decide +kernel
theorem dX2_goBack_45 : decode cX2_goBack 45 = .ok (.lconst 0, 1) := by decide +kernel
theorem dX2_goBack_46 : decode cX2_goBack 46 = .ok (.lstore_n 3, 1) := by decide +kernel
theorem dX2_goBack_47 : decode cX2_goBack 47 = .ok (.aload_n 0, 1) := by decide +kernel
theorem dX2_goBack_48 : decode cX2_goBack 48 = .ok (.getfield 30, 3) := by decide +kernel
theorem dX2_goBack_51 : decode cX2_goBack 51 = .ok (.iload_n 1, 1) := by decide +kernel
theorem dX2_goBack_52 : decode cX2_goBack 52 = .ok (.aaload, 1) := by decide +kernel
theorem dX2_goBack_53 : decode cX2_goBack 53 = .ok (.iload_n 2, 1) := by decide +kernel
theorem dX2_goBack_54 : decode cX2_goBack 54 = .ok (.aload_n 0, 1) := by decide +kernel
theorem dX2_goBack_55 : decode cX2_goBack 55 = .ok (.iload_n 1, 1) := by decide +kernel
theorem dX2_goBack_56 : decode cX2_goBack 56 = .ok (.iload_n 2, 1) := by decide +kernel
theorem dX2_goBack_57 : decode cX2_goBack 57 = .ok (.aload_n 0, 1) := by decide +kernel
theorem dX2_goBack_58 : decode cX2_goBack 58 = .ok (.getfield 30, 3) := by decide +kernel
theorem dX2_goBack_61 : decode cX2_goBack 61 = .ok (.iload_n 1, 1) := by decide +kernel
theorem dX2_goBack_62 : decode cX2_goBack 62 = .ok (.iconst 1, 1) := by decide +kernel
theorem dX2_goBack_63 : decode cX2_goBack 63 = .ok (.iadd, 1) := by decide +kernel
theorem dX2_goBack_64 : decode cX2_goBack 64 = .ok (.aaload, 1) := by decide +kernel
theorem dX2_goBack_65 : decode cX2_goBack 65 = .ok (.iload_n 2, 1) := by decide +kernel
theorem dX2_goBack_66 : decode cX2_goBack 66 = .ok (.laload, 1) := by decide +kernel
theorem dX2_goBack_67 : decode cX2_goBack 67 = .ok (.lload_n 3, 1) := by decide +kernel
theorem dX2_goBack_68 : decode cX2_goBack 68 = .ok (.invokevirtual 141, 3) := by decide +kernel
theorem dX2_goBack_71 : decode cX2_goBack 71 = .ok (.lastore, 1) := by decide +kernel
theorem dX2_goBack_72 : decode cX2_goBack 72 = .ok (.iinc 2 1, 3) := by decide +kernel
theorem dX2_goBack_75 : decode cX2_goBack 75 = .ok (.goto (-59), 3) := by decide +kernel
theorem dX2_goBack_78 : decode cX2_goBack 78 = .ok (.iinc 1 (-1), 3) := by decide +kernel
theorem dX2_goBack_81 : decode cX2_goBack 81 = .ok (.goto (-71), 3) := by decide +kernel
theorem dX2_goBack_84 : decode cX2_goBack 84 = .ok (.return_, 1) := by decide +kernel
theorem dX2_earlier_0 : decode cX2_earlier 0 = .ok (.lconst 0, 1) := by decide +kernel
theorem dX2_earlier_1 : decode cX2_earlier 1 = .ok (.lstore 7, 2) := by decide +kernel
theorem dX2_earlier_3 : decode cX2_earlier 3 = .ok (.iconst 0, 1) := by decide +kernel
theorem dX2_earlier_4 : decode cX2_earlier 4 = .ok (.istore 9, 2) := by decide +kernel
theorem dX2_earlier_6 : decode cX2_earlier 6 = .ok (.iload 9, 2) := by decide +kernel
theorem dX2_earlier_8 : decode cX2_earlier 8 = .ok (.getstatic 24, 3) := by decide +kernel
theorem dX2_earlier_11 : decode cX2_earlier 11 = .ok (.arraylength, 1) := by decide +kernel
theorem dX2_earlier_12 : decode cX2_earlier 12 = .ok (.if_icmp .ge 77, 3) := by decide +kernel
theorem dX2_earlier_15 : decode cX2_earlier 15 = .ok (.lload_n 3, 1) := by decide +kernel
theorem dX2_earlier_16 : decode cX2_earlier 16 = .ok (.lload 5, 2) := by decide +kernel
theorem dX2_earlier_18 : decode cX2_earlier 18 = .ok (.lor, 1) := by decide +kernel
theorem dX2_earlier_19 : decode cX2_earlier 19 = .ok (.lconst 0, 1) := by decide +kernel
theorem dX2_earlier_20 : decode cX2_earlier 20 = .ok (.lcmp, 1) := by decide +kernel
theorem dX2_earlier_21 : decode cX2_earlier 21 = .ok (.ifCond .eq 68, 3) := by decide +kernel
theorem dX2_earlier_24 : decode cX2_earlier 24 = .ok (.aload_n 0, 1) := by decide +kernel
theorem dX2_earlier_25 : decode cX2_earlier 25 = .ok (.getfield 27, 3) := by decide +kernel
theorem dX2_earlier_28 : decode cX2_earlier 28 = .ok (.iload_n 1, 1) := by decide +kernel
theorem dX2_earlier_29 : decode cX2_earlier 29 = .ok (.getstatic 24, 3) := by decide +kernel
theorem dX2_earlier_32 : decode cX2_earlier 32 = .ok (.arraylength, 1) := by decide +kernel
theorem dX2_earlier_33 : decode cX2_earlier 33 = .ok (.imul, 1) := by decide +kernel
theorem dX2_earlier_34 : decode cX2_earlier 34 = .ok (.iload 9, 2) := by decide +kernel
theorem dX2_earlier_36 : decode cX2_earlier 36 = .ok (.iadd, 1) := by decide +kernel
theorem dX2_earlier_37 : decode cX2_earlier 37 = .ok (.iaload, 1) := by decide +kernel
theorem dX2_earlier_38 : decode cX2_earlier 38 = .ok (.istore 10, 2) := by decide +kernel
theorem dX2_earlier_40 : decode cX2_earlier 40 = .ok (.iload 10, 2) := by decide +kernel
theorem dX2_earlier_42 : decode cX2_earlier 42 = .ok (.bipush 100, 2) := by decide +kernel
theorem dX2_earlier_44 : decode cX2_earlier 44 = .ok (.if_icmp .ge 39, 3) := by decide +kernel
theorem dX2_earlier_47 : decode cX2_earlier 47 = .ok (.lload 7, 2) := by decide +kernel
theorem dX2_earlier_49 : decode cX2_earlier 49 = .ok (.aload_n 0, 1) := by decide +kernel
theorem dX2_earlier_50 : decode cX2_earlier 50 = .ok (.getfield 21, 3) := by decide +kernel
theorem dX2_earlier_53 : decode cX2_earlier 53 = .ok (.iload 10, 2) := by decide +kernel
theorem dX2_earlier_55 : decode cX2_earlier 55 = .ok (.aaload, 1) := by decide +kernel
theorem dX2_earlier_56 : decode cX2_earlier 56 = .ok (.iload_n 2, 1) := by decide +kernel
theorem dX2_earlier_57 : decode cX2_earlier 57 = .ok (.laload, 1) := by decide +kernel
theorem dX2_earlier_58 : decode cX2_earlier 58 = .ok (.lload_n 3, 1) := by decide +kernel
theorem dX2_earlier_59 : decode cX2_earlier 59 = .ok (.getstatic 134, 3) := by decide +kernel
theorem dX2_earlier_62 : decode cX2_earlier 62 = .ok (.iload 9, 2) := by decide +kernel
theorem dX2_earlier_64 : decode cX2_earlier 64 = .ok (.iaload, 1) := by decide +kernel
theorem dX2_earlier_65 : decode cX2_earlier 65 = .ok (.lushr, 1) := by decide +kernel
theorem dX2_earlier_66 : decode cX2_earlier 66 = .ok (.lload 5, 2) := by decide +kernel
theorem dX2_earlier_68 : decode cX2_earlier 68 = .ok (.bipush 64, 2) := by decide +kernel
theorem dX2_earlier_70 : decode cX2_earlier 70 = .ok (.getstatic 134, 3) := by decide +kernel
theorem dX2_earlier_73 : decode cX2_earlier 73 = .ok (.iload 9, 2) := by decide +kernel
theorem dX2_earlier_75 : decode cX2_earlier 75 = .ok (.iaload, 1) := by decide +kernel
theorem dX2_earlier_76 : decode cX2_earlier 76 = .ok (.isub, 1) := by decide +kernel
theorem dX2_earlier_77 : decode cX2_earlier 77 = .ok (.lshl, 1) := by decide +kernel
theorem dX2_earlier_78 : decode cX2_earlier 78 = .ok (.lor, 1) := by decide +kernel
theorem dX2_earlier_79 : decode cX2_earlier 79 = .ok (.land, 1) := by decide +kernel
theorem dX2_earlier_80 : decode cX2_earlier 80 = .ok (.lor, 1) := by decide +kernel
theorem dX2_earlier_81 : decode cX2_earlier 81 = .ok (.lstore 7, 2) := by decide +kernel
theorem dX2_earlier_83 : decode cX2_earlier 83 = .ok (.iinc 9 1, 3) := by decide +kernel
theorem dX2_earlier_86 : decode cX2_earlier 86 = .ok (.goto (-80), 3) := by decide +kernel
theorem dX2_earlier_89 : decode cX2_earlier 89 = .ok (.lload 7, 2) := by decide +kernel
theorem dX2_earlier_91 : decode cX2_earlier 91 = .ok (.lreturn, 1) := by decide +kernel
theorem dX2_wipe_0 : decode cX2_wipe 0 = .ok (.iconst 0, 1) := by decide +kernel
theorem dX2_wipe_1 : decode cX2_wipe 1 = .ok (.istore_n 1, 1) := by decide +kernel
theorem dX2_wipe_2 : decode cX2_wipe 2 = .ok (.iload_n 1, 1) := by decide +kernel
theorem dX2_wipe_3 : decode cX2_wipe 3 = .ok (.aload_n 0, 1) := by decide +kernel
theorem dX2_wipe_4 : decode cX2_wipe 4 = .ok (.arraylength, 1) := by decide +kernel
theorem dX2_wipe_5 : decode cX2_wipe 5 = .ok (.if_icmp .ge 13, 3) := by decide +kernel
theorem dX2_wipe_8 : decode cX2_wipe 8 = .ok (.aload_n 0, 1) := by decide +kernel
theorem dX2_wipe_9 : decode cX2_wipe 9 = .ok (.iload_n 1, 1) := by decide +kernel
theorem dX2_wipe_10 : decode cX2_wipe 10 = .ok (.lconst 0, 1) := by decide +kernel
theorem dX2_wipe_11 : decode cX2_wipe 11 = .ok (.lastore, 1) := by decide +kernel
theorem dX2_wipe_12 : decode cX2_wipe 12 = .ok (.iinc 1 1, 3) := by decide +kernel
theorem dX2_wipe_15 : decode cX2_wipe 15 = .ok (.goto (-13), 3) := by decide +kernel
theorem dX2_wipe_18 : decode cX2_wipe 18 = .ok (.return_, 1) := by decide +kernel
theorem dX3_init_0 : decode cX3_init 0 = .ok (.aload_n 0, 1) := by decide +kernel
theorem dX3_init_1 : decode cX3_init 1 = .ok (.invokespecial 3, 3) := by decide +kernel
theorem dX3_init_4 : decode cX3_init 4 = .ok (.aload_n 0, 1) := by decide +kernel
theorem dX3_init_5 : decode cX3_init 5 = .ok (.iconst 4, 1) := by decide +kernel
theorem dX3_init_6 : decode cX3_init 6 = .ok (.bipush 24, 2) := by decide +kernel
theorem dX3_init_8 : decode cX3_init 8 = .ok (.multianewarray 11 2, 4) := by decide +kernel
theorem dX3_init_12 : decode cX3_init 12 = .ok (.putfield 13, 3) := by decide +kernel
theorem dX3_init_15 : decode cX3_init 15 = .ok (.aload_n 0, 1) := by decide +kernel
theorem dX3_init_16 : decode cX3_init 16 = .ok (.iconst 4, 1) := by decide +kernel
theorem dX3_init_17 : decode cX3_init 17 = .ok (.newarray .int, 2) := by decide +kernel
theorem dX3_init_19 : decode cX3_init 19 = .ok (.dup, 1) := by decide +kernel
theorem dX3_init_20 : decode cX3_init 20 = .ok (.iconst 0, 1) := by decide +kernel
theorem dX3_init_21 : decode cX3_init 21 = .ok (.iconst (-1), 1) := by decide +kernel
theorem dX3_init_22 : decode cX3_init 22 = .ok (.iastore, 1) := by decide +kernel
theorem dX3_init_23 : decode cX3_init 23 = .ok (.dup, 1) := by decide +kernel
theorem dX3_init_24 : decode cX3_init 24 = .ok (.iconst 1, 1) := by decide +kernel
theorem dX3_init_25 : decode cX3_init 25 = .ok (.iconst (-1), 1) := by decide +kernel
theorem dX3_init_26 : decode cX3_init 26 = .ok (.iastore, 1) := by decide +kernel
theorem dX3_init_27 : decode cX3_init 27 = .ok (.dup, 1) := by decide +kernel
theorem dX3_init_28 : decode cX3_init 28 = .ok (.iconst 2, 1) := by decide +kernel
theorem dX3_init_29 : decode cX3_init 29 = .ok (.iconst (-1), 1) := by decide +kernel
theorem dX3_init_30 : decode cX3_init 30 = .ok (.iastore, 1) := by decide +kernel
theorem dX3_init_31 : decode cX3_init 31 = .ok (.dup, 1) := by decide +kernel
theorem dX3_init_32 : decode cX3_init 32 = .ok (.iconst 3, 1) := by decide +kernel
theorem dX3_init_33 : decode cX3_init 33 = .ok (.iconst (-1), 1) := by decide +kernel
theorem dX3_init_34 : decode cX3_init 34 = .ok (.iastore, 1) := by decide +kernel
theorem dX3_init_35 : decode cX3_init 35 = .ok (.putfield 16, 3) := by decide +kernel
theorem dX3_init_38 : decode cX3_init 38 = .ok (.aload_n 0, 1) := by decide +kernel
theorem dX3_init_39 : decode cX3_init 39 = .ok (.iconst 4, 1) := by decide +kernel
theorem dX3_init_40 : decode cX3_init 40 = .ok (.newarray .int, 2) := by decide +kernel
theorem dX3_init_42 : decode cX3_init 42 = .ok (.putfield 20, 3) := by decide +kernel
theorem dX3_init_45 : decode cX3_init 45 = .ok (.return_, 1) := by decide +kernel
theorem dX3_begin_0 : decode cX3_begin 0 = .ok (.iload_n 1, 1) := by decide +kernel
theorem dX3_begin_1 : decode cX3_begin 1 = .ok (.invokestatic 23, 3) := by decide +kernel
theorem dX3_begin_4 : decode cX3_begin 4 = .ok (.ifCond .eq 16, 3) := by decide +kernel
theorem dX3_begin_7 : decode cX3_begin 7 = .ok (.iload_n 2, 1) := by decide +kernel
theorem dX3_begin_8 : decode cX3_begin 8 = .ok (.invokestatic 27, 3) := by decide +kernel
theorem dX3_begin_11 : decode cX3_begin 11 = .ok (.ifCond .eq 9, 3) := by decide +kernel
theorem dX3_begin_14 : decode cX3_begin 14 = .ok (.iload_n 3, 1) := by decide +kernel
theorem dX3_begin_15 : decode cX3_begin 15 = .ok (.bipush 24, 2) := by decide +kernel
theorem dX3_begin_17 : decode cX3_begin 17 = .ok (.if_icmp .le 5, 3) := by decide +kernel
theorem dX3_begin_20 : decode cX3_begin 20 = .ok (.iconst (-1), 1) := by decide +kernel
theorem dX3_begin_21 : decode cX3_begin 21 = .ok (.ireturn, 1) := by decide +kernel
theorem dX3_begin_22 : decode cX3_begin 22 = .ok (.iload_n 3, 1) := by decide +kernel
theorem dX3_begin_23 : decode cX3_begin 23 = .ok (.ifCond .ge 6, 3) := by decide +kernel
theorem dX3_begin_26 : decode cX3_begin 26 = .ok (.bipush (-14), 2) := by decide +kernel
theorem dX3_begin_28 : decode cX3_begin 28 = .ok (.ireturn, 1) := by decide +kernel
theorem dX3_begin_29 : decode cX3_begin 29 = .ok (.iconst 0, 1) := by decide +kernel
theorem dX3_begin_30 : decode cX3_begin 30 = .ok (.istore 4, 2) := by decide +kernel
theorem dX3_begin_32 : decode cX3_begin 32 = .ok (.iload 4, 2) := by decide +kernel
theorem dX3_begin_34 : decode cX3_begin 34 = .ok (.bipush 24, 2) := by decide +kernel
theorem dX3_begin_36 : decode cX3_begin 36 = .ok (.if_icmp .ge 19, 3) := by decide +kernel
theorem dX3_begin_39 : decode cX3_begin 39 = .ok (.aload_n 0, 1) := by decide +kernel
theorem dX3_begin_40 : decode cX3_begin 40 = .ok (.getfield 13, 3) := by decide +kernel
theorem dX3_begin_43 : decode cX3_begin 43 = .ok (.iload_n 1, 1) := by decide +kernel
theorem dX3_begin_44 : decode cX3_begin 44 = .ok (.aaload, 1) := by decide +kernel
theorem dX3_begin_45 : decode cX3_begin 45 = .ok (.iload 4, 2) := by decide +kernel
theorem dX3_begin_47 : decode cX3_begin 47 = .ok (.iconst 0, 1) := by decide +kernel
theorem dX3_begin_48 : decode cX3_begin 48 = .ok (.iastore, 1) := by decide +kernel
theorem dX3_begin_49 : decode cX3_begin 49 = .ok (.iinc 4 1, 3) := by decide +kernel
theorem dX3_begin_52 : decode cX3_begin 52 = .ok (.goto (-20), 3) := by decide +kernel
theorem dX3_begin_55 : decode cX3_begin 55 = .ok (.aload_n 0, 1) := by decide +kernel
theorem dX3_begin_56 : decode cX3_begin 56 = .ok (.getfield 16, 3) := by decide +kernel
theorem dX3_begin_59 : decode cX3_begin 59 = .ok (.iload_n 1, 1) := by decide +kernel
theorem dX3_begin_60 : decode cX3_begin 60 = .ok (.iload_n 2, 1) := by decide +kernel
theorem dX3_begin_61 : decode cX3_begin 61 = .ok (.iastore, 1) := by decide +kernel
theorem dX3_begin_62 : decode cX3_begin 62 = .ok (.aload_n 0, 1) := by decide +kernel
theorem dX3_begin_63 : decode cX3_begin 63 = .ok (.getfield 20, 3) := by decide +kernel
theorem dX3_begin_66 : decode cX3_begin 66 = .ok (.iload_n 1, 1) := by decide +kernel
theorem dX3_begin_67 : decode cX3_begin 67 = .ok (.iload_n 3, 1) := by decide +kernel
theorem dX3_begin_68 : decode cX3_begin 68 = .ok (.iastore, 1) := by decide +kernel
theorem dX3_begin_69 : decode cX3_begin 69 = .ok (.iload_n 3, 1) := by decide +kernel
theorem dX3_begin_70 : decode cX3_begin 70 = .ok (.ireturn, 1) := by decide +kernel
theorem dX3_forget_0 : decode cX3_forget 0 = .ok (.iload_n 1, 1) := by decide +kernel
theorem dX3_forget_1 : decode cX3_forget 1 = .ok (.invokestatic 23, 3) := by decide +kernel
theorem dX3_forget_4 : decode cX3_forget 4 = .ok (.ifCond .ne 5, 3) := by decide +kernel
theorem dX3_forget_7 : decode cX3_forget 7 = .ok (.iconst (-1), 1) := by decide +kernel
theorem dX3_forget_8 : decode cX3_forget 8 = .ok (.ireturn, 1) := by decide +kernel
theorem dX3_forget_9 : decode cX3_forget 9 = .ok (.aload_n 0, 1) := by decide +kernel
theorem dX3_forget_10 : decode cX3_forget 10 = .ok (.iload_n 1, 1) := by decide +kernel
theorem dX3_forget_11 : decode cX3_forget 11 = .ok (.invokevirtual 30, 3) := by decide +kernel
theorem dX3_forget_14 : decode cX3_forget 14 = .ok (.ifCond .eq 6, 3) := by decide +kernel
theorem dX3_forget_17 : decode cX3_forget 17 = .ok (.bipush (-11), 2) := by decide +kernel
theorem dX3_forget_19 : decode cX3_forget 19 = .ok (.ireturn, 1) := by decide +kernel
theorem dX3_forget_20 : decode cX3_forget 20 = .ok (.aload_n 0, 1) := by decide +kernel
theorem dX3_forget_21 : decode cX3_forget 21 = .ok (.getfield 16, 3) := by decide +kernel
theorem dX3_forget_24 : decode cX3_forget 24 = .ok (.iload_n 1, 1) := by decide +kernel
theorem dX3_forget_25 : decode cX3_forget 25 = .ok (.iconst (-1), 1) := by decide +kernel
theorem dX3_forget_26 : decode cX3_forget 26 = .ok (.iastore, 1) := by decide +kernel
theorem dX3_forget_27 : decode cX3_forget 27 = .ok (.aload_n 0, 1) := by decide +kernel
theorem dX3_forget_28 : decode cX3_forget 28 = .ok (.getfield 20, 3) := by decide +kernel
theorem dX3_forget_31 : decode cX3_forget 31 = .ok (.iload_n 1, 1) := by decide +kernel
theorem dX3_forget_32 : decode cX3_forget 32 = .ok (.iaload, 1) := by decide +kernel
theorem dX3_forget_33 : decode cX3_forget 33 = .ok (.ireturn, 1) := by decide +kernel
theorem dX3_refusal_0 : decode cX3_refusal 0 = .ok (.iload_n 1, 1) := by decide +kernel
theorem dX3_refusal_1 : decode cX3_refusal 1 = .ok (.invokestatic 23, 3) := by decide +kernel
theorem dX3_refusal_4 : decode cX3_refusal 4 = .ok (.ifCond .eq 10, 3) := by decide +kernel
theorem dX3_refusal_7 : decode cX3_refusal 7 = .ok (.iload_n 2, 1) := by decide +kernel
theorem dX3_refusal_8 : decode cX3_refusal 8 = .ok (.invokestatic 27, 3) := by decide +kernel
theorem dX3_refusal_11 : decode cX3_refusal 11 = .ok (.ifCond .ne 5, 3) := by decide +kernel
theorem dX3_refusal_14 : decode cX3_refusal 14 = .ok (.iconst (-1), 1) := by decide +kernel
theorem dX3_refusal_15 : decode cX3_refusal 15 = .ok (.ireturn, 1) := by decide +kernel
theorem dX3_refusal_16 : decode cX3_refusal 16 = .ok (.aload_n 0, 1) := by decide +kernel
theorem dX3_refusal_17 : decode cX3_refusal 17 = .ok (.iload_n 1, 1) := by decide +kernel
theorem dX3_refusal_18 : decode cX3_refusal 18 = .ok (.invokevirtual 30, 3) := by decide +kernel
theorem dX3_refusal_21 : decode cX3_refusal 21 = .ok (.ifCond .eq 6, 3) := by decide +kernel
theorem dX3_refusal_24 : decode cX3_refusal 24 = .ok (.bipush (-11), 2) := by decide +kernel
theorem dX3_refusal_26 : decode cX3_refusal 26 = .ok (.ireturn, 1) := by decide +kernel
theorem dX3_refusal_27 : decode cX3_refusal 27 = .ok (.aload_n 0, 1) := by decide +kernel
theorem dX3_refusal_28 : decode cX3_refusal 28 = .ok (.getfield 16, 3) := by decide +kernel
theorem dX3_refusal_31 : decode cX3_refusal 31 = .ok (.iload_n 1, 1) := by decide +kernel
theorem dX3_refusal_32 : decode cX3_refusal 32 = .ok (.iaload, 1) := by decide +kernel
theorem dX3_refusal_33 : decode cX3_refusal 33 = .ok (.iload_n 2, 1) := by decide +kernel
theorem dX3_refusal_34 : decode cX3_refusal 34 = .ok (.if_icmp .eq 6, 3) := by decide +kernel
theorem dX3_refusal_37 : decode cX3_refusal 37 = .ok (.bipush (-12), 2) := by decide +kernel
theorem dX3_refusal_39 : decode cX3_refusal 39 = .ok (.ireturn, 1) := by decide +kernel
theorem dX3_refusal_40 : decode cX3_refusal 40 = .ok (.aload_n 0, 1) := by decide +kernel
theorem dX3_refusal_41 : decode cX3_refusal 41 = .ok (.iload_n 1, 1) := by decide +kernel
theorem dX3_refusal_42 : decode cX3_refusal 42 = .ok (.iload_n 3, 1) := by decide +kernel
theorem dX3_refusal_43 : decode cX3_refusal 43 = .ok (.iload 4, 2) := by decide +kernel
theorem dX3_refusal_45 : decode cX3_refusal 45 = .ok (.invokevirtual 33, 3) := by decide +kernel
theorem dX3_refusal_48 : decode cX3_refusal 48 = .ok (.ifCond .eq 7, 3) := by decide +kernel
theorem dX3_refusal_51 : decode cX3_refusal 51 = .ok (.iconst 0, 1) := by decide +kernel
theorem dX3_refusal_52 : decode cX3_refusal 52 = .ok (.goto 5, 3) := by decide +kernel
theorem dX3_refusal_55 : decode cX3_refusal 55 = .ok (.bipush (-13), 2) := by decide +kernel
theorem dX3_refusal_57 : decode cX3_refusal 57 = .ok (.ireturn, 1) := by decide +kernel
theorem dX3_get_0 : decode cX3_get 0 = .ok (.aload_n 0, 1) := by decide +kernel
theorem dX3_get_1 : decode cX3_get 1 = .ok (.getfield 13, 3) := by decide +kernel
theorem dX3_get_4 : decode cX3_get 4 = .ok (.iload_n 1, 1) := by decide +kernel
theorem dX3_get_5 : decode cX3_get 5 = .ok (.aaload, 1) := by decide +kernel
theorem dX3_get_6 : decode cX3_get 6 = .ok (.iload_n 2, 1) := by decide +kernel
theorem dX3_get_7 : decode cX3_get 7 = .ok (.iaload, 1) := by decide +kernel
theorem dX3_get_8 : decode cX3_get 8 = .ok (.ireturn, 1) := by decide +kernel
theorem dX3_put_0 : decode cX3_put 0 = .ok (.aload_n 0, 1) := by decide +kernel
theorem dX3_put_1 : decode cX3_put 1 = .ok (.getfield 16, 3) := by decide +kernel
theorem dX3_put_4 : decode cX3_put 4 = .ok (.iload_n 1, 1) := by decide +kernel
theorem dX3_put_5 : decode cX3_put 5 = .ok (.iaload, 1) := by decide +kernel
theorem dX3_put_6 : decode cX3_put 6 = .ok (.istore 4, 2) := by decide +kernel
theorem dX3_put_8 : decode cX3_put 8 = .ok (.aload_n 0, 1) := by decide +kernel
theorem dX3_put_9 : decode cX3_put 9 = .ok (.getfield 13, 3) := by decide +kernel
theorem dX3_put_12 : decode cX3_put 12 = .ok (.iload_n 1, 1) := by decide +kernel
theorem dX3_put_13 : decode cX3_put 13 = .ok (.aaload, 1) := by decide +kernel
theorem dX3_put_14 : decode cX3_put 14 = .ok (.iload_n 2, 1) := by decide +kernel
theorem dX3_put_15 : decode cX3_put 15 = .ok (.iload 4, 2) := by decide +kernel
theorem dX3_put_17 : decode cX3_put 17 = .ok (.ifCond .ne 8, 3) := by decide +kernel
theorem dX3_put_20 : decode cX3_put 20 = .ok (.iload_n 3, 1) := by decide +kernel
theorem dX3_put_21 : decode cX3_put 21 = .ok (.i2b, 1) := by decide +kernel
theorem dX3_put_22 : decode cX3_put 22 = .ok (.goto 15, 3) := by decide +kernel
theorem dX3_put_25 : decode cX3_put 25 = .ok (.iload 4, 2) := by decide +kernel
theorem dX3_put_27 : decode cX3_put 27 = .ok (.iconst 2, 1) := by decide +kernel
theorem dX3_put_28 : decode cX3_put 28 = .ok (.if_icmp .ne 7, 3) := by decide +kernel
theorem dX3_put_31 : decode cX3_put 31 = .ok (.iload_n 3, 1) := by decide +kernel
theorem dX3_put_32 : decode cX3_put 32 = .ok (.goto 5, 3) := by decide +kernel
theorem dX3_put_35 : decode cX3_put 35 = .ok (.iload_n 3, 1) := by decide +kernel
theorem dX3_put_36 : decode cX3_put 36 = .ok (.i2s, 1) := by decide +kernel
theorem dX3_put_37 : decode cX3_put 37 = .ok (.iastore, 1) := by decide +kernel
theorem dX3_put_38 : decode cX3_put 38 = .ok (.return_, 1) := by decide +kernel
theorem dX3_move_0 : decode cX3_move 0 = .ok (.iload_n 1, 1) := by decide +kernel
theorem dX3_move_1 : decode cX3_move 1 = .ok (.invokestatic 23, 3) := by decide +kernel
theorem dX3_move_4 : decode cX3_move 4 = .ok (.ifCond .eq 10, 3) := by decide +kernel
theorem dX3_move_7 : decode cX3_move 7 = .ok (.iload_n 3, 1) := by decide +kernel
theorem dX3_move_8 : decode cX3_move 8 = .ok (.invokestatic 23, 3) := by decide +kernel
theorem dX3_move_11 : decode cX3_move 11 = .ok (.ifCond .ne 5, 3) := by decide +kernel
theorem dX3_move_14 : decode cX3_move 14 = .ok (.iconst (-1), 1) := by decide +kernel
theorem dX3_move_15 : decode cX3_move 15 = .ok (.ireturn, 1) := by decide +kernel
theorem dX3_move_16 : decode cX3_move 16 = .ok (.aload_n 0, 1) := by decide +kernel
theorem dX3_move_17 : decode cX3_move 17 = .ok (.iload_n 1, 1) := by decide +kernel
theorem dX3_move_18 : decode cX3_move 18 = .ok (.invokevirtual 30, 3) := by decide +kernel
theorem dX3_move_21 : decode cX3_move 21 = .ok (.ifCond .ne 11, 3) := by decide +kernel
theorem dX3_move_24 : decode cX3_move 24 = .ok (.aload_n 0, 1) := by decide +kernel
theorem dX3_move_25 : decode cX3_move 25 = .ok (.iload_n 3, 1) := by decide +kernel
theorem dX3_move_26 : decode cX3_move 26 = .ok (.invokevirtual 30, 3) := by decide +kernel
theorem dX3_move_29 : decode cX3_move 29 = .ok (.ifCond .eq 6, 3) := by decide +kernel
theorem dX3_move_32 : decode cX3_move 32 = .ok (.bipush (-11), 2) := by decide +kernel
theorem dX3_move_34 : decode cX3_move 34 = .ok (.ireturn, 1) := by decide +kernel
theorem dX3_move_35 : decode cX3_move 35 = .ok (.aload_n 0, 1) := by decide +kernel
theorem dX3_move_36 : decode cX3_move 36 = .ok (.getfield 16, 3) := by decide +kernel
theorem dX3_move_39 : decode cX3_move 39 = .ok (.iload_n 1, 1) := by decide +kernel
theorem dX3_move_40 : decode cX3_move 40 = .ok (.iaload, 1) := by decide +kernel
theorem dX3_move_41 : decode cX3_move 41 = .ok (.aload_n 0, 1) := by decide +kernel
theorem dX3_move_42 : decode cX3_move 42 = .ok (.getfield 16, 3) := by decide +kernel
theorem dX3_move_45 : decode cX3_move 45 = .ok (.iload_n 3, 1) := by decide +kernel
theorem dX3_move_46 : decode cX3_move 46 = .ok (.iaload, 1) := by decide +kernel
theorem dX3_move_47 : decode cX3_move 47 = .ok (.if_icmp .eq 6, 3) := by decide +kernel
theorem dX3_move_50 : decode cX3_move 50 = .ok (.bipush (-12), 2) := by decide +kernel
theorem dX3_move_52 : decode cX3_move 52 = .ok (.ireturn, 1) := by decide +kernel
theorem dX3_move_53 : decode cX3_move 53 = .ok (.aload_n 0, 1) := by decide +kernel
theorem dX3_move_54 : decode cX3_move 54 = .ok (.iload_n 1, 1) := by decide +kernel
theorem dX3_move_55 : decode cX3_move 55 = .ok (.iload_n 2, 1) := by decide +kernel
theorem dX3_move_56 : decode cX3_move 56 = .ok (.iload 5, 2) := by decide +kernel
theorem dX3_move_58 : decode cX3_move 58 = .ok (.invokevirtual 33, 3) := by decide +kernel
theorem dX3_move_61 : decode cX3_move 61 = .ok (.ifCond .eq 15, 3) := by decide +kernel
theorem dX3_move_64 : decode cX3_move 64 = .ok (.aload_n 0, 1) := by decide +kernel
theorem dX3_move_65 : decode cX3_move 65 = .ok (.iload_n 3, 1) := by decide +kernel
theorem dX3_move_66 : decode cX3_move 66 = .ok (.iload 4, 2) := by decide +kernel
theorem dX3_move_68 : decode cX3_move 68 = .ok (.iload 5, 2) := by decide +kernel
theorem dX3_move_70 : decode cX3_move 70 = .ok (.invokevirtual 33, 3) := by decide +kernel
theorem dX3_move_73 : decode cX3_move 73 = .ok (.ifCond .ne 6, 3) := by decide +kernel
theorem dX3_move_76 : decode cX3_move 76 = .ok (.bipush (-13), 2) := by decide +kernel
theorem dX3_move_78 : decode cX3_move 78 = .ok (.ireturn, 1) := by decide +kernel
theorem dX3_move_79 : decode cX3_move 79 = .ok (.aload_n 0, 1) := by decide +kernel
theorem dX3_move_80 : decode cX3_move 80 = .ok (.getfield 13, 3) := by decide +kernel
theorem dX3_move_83 : decode cX3_move 83 = .ok (.iload_n 1, 1) := by decide +kernel
theorem dX3_move_84 : decode cX3_move 84 = .ok (.aaload, 1) := by decide +kernel
theorem dX3_move_85 : decode cX3_move 85 = .ok (.iload_n 2, 1) := by decide +kernel
theorem dX3_move_86 : decode cX3_move 86 = .ok (.aload_n 0, 1) := by decide +kernel
theorem dX3_move_87 : decode cX3_move 87 = .ok (.getfield 13, 3) := by decide +kernel
theorem dX3_move_90 : decode cX3_move 90 = .ok (.iload_n 3, 1) := by decide +kernel
theorem dX3_move_91 : decode cX3_move 91 = .ok (.aaload, 1) := by decide +kernel
theorem dX3_move_92 : decode cX3_move 92 = .ok (.iload 4, 2) := by decide +kernel
theorem dX3_move_94 : decode cX3_move 94 = .ok (.iload 5, 2) := by decide +kernel
theorem dX3_move_96 : decode cX3_move 96 = .ok (.invokestatic 37, 3) := by decide +kernel
theorem dX3_move_99 : decode cX3_move 99 = .ok (.iload 5, 2) := by decide +kernel
theorem dX3_move_101 : decode cX3_move 101 = .ok (.ireturn, 1) := by decide +kernel
theorem dX3_isSheet_0 : decode cX3_isSheet 0 = .ok (.iload_n 0, 1) := by decide +kernel
theorem dX3_isSheet_1 : decode cX3_isSheet 1 = .ok (.iconst 0, 1) := by decide +kernel
theorem dX3_isSheet_2 : decode cX3_isSheet 2 = .ok (.iconst 3, 1) := by decide +kernel
theorem dX3_isSheet_3 : decode cX3_isSheet 3 = .ok (.invokestatic 43, 3) := by decide +kernel
theorem dX3_isSheet_6 : decode cX3_isSheet 6 = .ok (.ireturn, 1) := by decide +kernel
theorem dX3_isLane_0 : decode cX3_isLane 0 = .ok (.iload_n 0, 1) := by decide +kernel
theorem dX3_isLane_1 : decode cX3_isLane 1 = .ok (.iconst 0, 1) := by decide +kernel
theorem dX3_isLane_2 : decode cX3_isLane 2 = .ok (.iconst 2, 1) := by decide +kernel
theorem dX3_isLane_3 : decode cX3_isLane 3 = .ok (.invokestatic 43, 3) := by decide +kernel
theorem dX3_isLane_6 : decode cX3_isLane 6 = .ok (.ireturn, 1) := by decide +kernel
theorem dX3_isNothing_0 : decode cX3_isNothing 0 = .ok (.aload_n 0, 1) := by decide +kernel
theorem dX3_isNothing_1 : decode cX3_isNothing 1 = .ok (.getfield 16, 3) := by decide +kernel
theorem dX3_isNothing_4 : decode cX3_isNothing 4 = .ok (.iload_n 1, 1) := by decide +kernel
theorem dX3_isNothing_5 : decode cX3_isNothing 5 = .ok (.iaload, 1) := by decide +kernel
theorem dX3_isNothing_6 : decode cX3_isNothing 6 = .ok (.iconst (-1), 1) := by decide +kernel
theorem dX3_isNothing_7 : decode cX3_isNothing 7 = .ok (.if_icmp .ne 7, 3) := by decide +kernel
theorem dX3_isNothing_10 : decode cX3_isNothing 10 = .ok (.iconst 1, 1) := by decide +kernel
theorem dX3_isNothing_11 : decode cX3_isNothing 11 = .ok (.goto 4, 3) := by decide +kernel
theorem dX3_isNothing_14 : decode cX3_isNothing 14 = .ok (.iconst 0, 1) := by decide +kernel
theorem dX3_isNothing_15 : decode cX3_isNothing 15 = .ok (.ireturn, 1) := by decide +kernel
theorem dX3_hasItems_0 : decode cX3_hasItems 0 = .ok (.iload_n 2, 1) := by decide +kernel
theorem dX3_hasItems_1 : decode cX3_hasItems 1 = .ok (.ifCond .lt 33, 3) := by decide +kernel
theorem dX3_hasItems_4 : decode cX3_hasItems 4 = .ok (.iload_n 3, 1) := by decide +kernel
theorem dX3_hasItems_5 : decode cX3_hasItems 5 = .ok (.ifCond .lt 29, 3) := by decide +kernel
theorem dX3_hasItems_8 : decode cX3_hasItems 8 = .ok (.iload_n 3, 1) := by decide +kernel
theorem dX3_hasItems_9 : decode cX3_hasItems 9 = .ok (.aload_n 0, 1) := by decide +kernel
theorem dX3_hasItems_10 : decode cX3_hasItems 10 = .ok (.getfield 20, 3) := by decide +kernel
theorem dX3_hasItems_13 : decode cX3_hasItems 13 = .ok (.iload_n 1, 1) := by decide +kernel
theorem dX3_hasItems_14 : decode cX3_hasItems 14 = .ok (.iaload, 1) := by decide +kernel
theorem dX3_hasItems_15 : decode cX3_hasItems 15 = .ok (.if_icmp .gt 19, 3) := by decide +kernel
theorem dX3_hasItems_18 : decode cX3_hasItems 18 = .ok (.iload_n 2, 1) := by decide +kernel
theorem dX3_hasItems_19 : decode cX3_hasItems 19 = .ok (.aload_n 0, 1) := by decide +kernel
theorem dX3_hasItems_20 : decode cX3_hasItems 20 = .ok (.getfield 20, 3) := by decide +kernel
theorem dX3_hasItems_23 : decode cX3_hasItems 23 = .ok (.iload_n 1, 1) := by decide +kernel
theorem dX3_hasItems_24 : decode cX3_hasItems 24 = .ok (.iaload, 1) := by decide +kernel
theorem dX3_hasItems_25 : decode cX3_hasItems 25 = .ok (.iload_n 3, 1) := by decide +kernel
theorem dX3_hasItems_26 : decode cX3_hasItems 26 = .ok (.isub, 1) := by decide +kernel
theorem dX3_hasItems_27 : decode cX3_hasItems 27 = .ok (.if_icmp .gt 7, 3) := by decide +kernel
theorem dX3_hasItems_30 : decode cX3_hasItems 30 = .ok (.iconst 1, 1) := by decide +kernel
theorem dX3_hasItems_31 : decode cX3_hasItems 31 = .ok (.goto 4, 3) := by decide +kernel
theorem dX3_hasItems_34 : decode cX3_hasItems 34 = .ok (.iconst 0, 1) := by decide +kernel
theorem dX3_hasItems_35 : decode cX3_hasItems 35 = .ok (.ireturn, 1) := by decide +kernel
theorem dX4_init_0 : decode cX4_init 0 = .ok (.aload_n 0, 1) := by decide +kernel
theorem dX4_init_1 : decode cX4_init 1 = .ok (.invokespecial 3, 3) := by decide +kernel
theorem dX4_init_4 : decode cX4_init 4 = .ok (.aload_n 0, 1) := by decide +kernel
theorem dX4_init_5 : decode cX4_init 5 = .ok (.bipush 48, 2) := by decide +kernel
theorem dX4_init_7 : decode cX4_init 7 = .ok (.newarray .int, 2) := by decide +kernel
theorem dX4_init_9 : decode cX4_init 9 = .ok (.putfield 9, 3) := by decide +kernel
theorem dX4_init_12 : decode cX4_init 12 = .ok (.aload_n 0, 1) := by decide +kernel
theorem dX4_init_13 : decode cX4_init 13 = .ok (.bipush 100, 2) := by decide +kernel
theorem dX4_init_15 : decode cX4_init 15 = .ok (.newarray .byte, 2) := by decide +kernel
theorem dX4_init_17 : decode cX4_init 17 = .ok (.putfield 15, 3) := by decide +kernel
theorem dX4_init_20 : decode cX4_init 20 = .ok (.aload_n 0, 1) := by decide +kernel
theorem dX4_init_21 : decode cX4_init 21 = .ok (.iconst 0, 1) := by decide +kernel
theorem dX4_init_22 : decode cX4_init 22 = .ok (.putfield 19, 3) := by decide +kernel
theorem dX4_init_25 : decode cX4_init 25 = .ok (.aload_n 0, 1) := by decide +kernel
theorem dX4_init_26 : decode cX4_init 26 = .ok (.iconst 0, 1) := by decide +kernel
theorem dX4_init_27 : decode cX4_init 27 = .ok (.putfield 23, 3) := by decide +kernel
theorem dX4_init_30 : decode cX4_init 30 = .ok (.aload_n 0, 1) := by decide +kernel
theorem dX4_init_31 : decode cX4_init 31 = .ok (.iconst 0, 1) := by decide +kernel
theorem dX4_init_32 : decode cX4_init 32 = .ok (.putfield 26, 3) := by decide +kernel
theorem dX4_init_35 : decode cX4_init 35 = .ok (.return_, 1) := by decide +kernel
theorem dX4_append_0 : decode cX4_append 0 = .ok (.iload_n 3, 1) := by decide +kernel
theorem dX4_append_1 : decode cX4_append 1 = .ok (.iconst 1, 1) := by decide +kernel
theorem dX4_append_2 : decode cX4_append 2 = .ok (.bipush 8, 2) := by decide +kernel
theorem dX4_append_4 : decode cX4_append 4 = .ok (.invokestatic 29, 3) := by decide +kernel
theorem dX4_append_7 : decode cX4_append 7 = .ok (.ifCond .ne 5, 3) := by decide +kernel
theorem dX4_append_10 : decode cX4_append 10 = .ok (.iconst (-1), 1) := by decide +kernel
theorem dX4_append_11 : decode cX4_append 11 = .ok (.ireturn, 1) := by decide +kernel
theorem dX4_append_12 : decode cX4_append 12 = .ok (.iconst 0, 1) := by decide +kernel
theorem dX4_append_13 : decode cX4_append 13 = .ok (.istore 4, 2) := by decide +kernel
theorem dX4_append_15 : decode cX4_append 15 = .ok (.iload 4, 2) := by decide +kernel
theorem dX4_append_17 : decode cX4_append 17 = .ok (.iload_n 3, 1) := by decide +kernel
theorem dX4_append_18 : decode cX4_append 18 = .ok (.if_icmp .ge 33, 3) := by decide +kernel
theorem dX4_append_21 : decode cX4_append 21 = .ok (.lload_n 1, 1) := by decide +kernel
theorem dX4_append_22 : decode cX4_append 22 = .ok (.bipush 8, 2) := by decide +kernel
theorem dX4_append_24 : decode cX4_append 24 = .ok (.iload 4, 2) := by decide +kernel
theorem dX4_append_26 : decode cX4_append 26 = .ok (.imul, 1) := by decide +kernel
theorem dX4_append_27 : decode cX4_append 27 = .ok (.lushr, 1) := by decide +kernel
theorem dX4_append_28 : decode cX4_append 28 = .ok (.ldc2_w 33, 3) := by decide +kernel
theorem dX4_append_31 : decode cX4_append 31 = .ok (.land, 1) := by decide +kernel
theorem dX4_append_32 : decode cX4_append 32 = .ok (.l2i, 1) := by decide +kernel
theorem dX4_append_33 : decode cX4_append 33 = .ok (.bipush 32, 2) := by decide +kernel
theorem dX4_append_35 : decode cX4_append 35 = .ok (.bipush 126, 2) := by decide +kernel
theorem dX4_append_37 : decode cX4_append 37 = .ok (.invokestatic 29, 3) := by decide +kernel
theorem dX4_append_40 : decode cX4_append 40 = .ok (.ifCond .ne 5, 3) := by decide +kernel
theorem dX4_append_43 : decode cX4_append 43 = .ok (.iconst (-1), 1) := by decide +kernel
theorem dX4_append_44 : decode cX4_append 44 = .ok (.ireturn, 1) := by decide +kernel
theorem dX4_append_45 : decode cX4_append 45 = .ok (.iinc 4 1, 3) := by decide +kernel
theorem dX4_append_48 : decode cX4_append 48 = .ok (.goto (-33), 3) := by decide +kernel
theorem dX4_append_51 : decode cX4_append 51 = .ok (.aload_n 0, 1) := by decide +kernel
theorem dX4_append_52 : decode cX4_append 52 = .ok (.getfield 19, 3) := by decide +kernel
theorem dX4_append_55 : decode cX4_append 55 = .ok (.iload_n 3, 1) := by decide +kernel
theorem dX4_append_56 : decode cX4_append 56 = .ok (.iadd, 1) := by decide +kernel
theorem dX4_append_57 : decode cX4_append 57 = .ok (.bipush 100, 2) := by decide +kernel
theorem dX4_append_59 : decode cX4_append 59 = .ok (.if_icmp .le 6, 3) := by decide +kernel
theorem dX4_append_62 : decode cX4_append 62 = .ok (.bipush (-3), 2) := by decide +kernel
theorem dX4_append_64 : decode cX4_append 64 = .ok (.ireturn, 1) := by decide +kernel
theorem dX4_append_65 : decode cX4_append 65 = .ok (.iload_n 3, 1) := by decide +kernel
theorem dX4_append_66 : decode cX4_append 66 = .ok (.iconst 1, 1) := by decide +kernel
theorem dX4_append_67 : decode cX4_append 67 = .ok (.isub, 1) := by decide +kernel
theorem dX4_append_68 : decode cX4_append 68 = .ok (.istore 4, 2) := by decide +kernel
theorem dX4_append_70 : decode cX4_append 70 = .ok (.iload 4, 2) := by decide +kernel
theorem dX4_append_72 : decode cX4_append 72 = .ok (.ifCond .lt 41, 3) := by decide +kernel
theorem dX4_append_75 : decode cX4_append 75 = .ok (.aload_n 0, 1) := by decide +kernel
theorem dX4_append_76 : decode cX4_append 76 = .ok (.getfield 15, 3) := by decide +kernel
theorem dX4_append_79 : decode cX4_append 79 = .ok (.aload_n 0, 1) := by decide +kernel
theorem dX4_append_80 : decode cX4_append 80 = .ok (.getfield 19, 3) := by decide +kernel
theorem dX4_append_83 : decode cX4_append 83 = .ok (.lload_n 1, 1) := by decide +kernel
theorem dX4_append_84 : decode cX4_append 84 = .ok (.bipush 8, 2) := by decide +kernel
theorem dX4_append_86 : decode cX4_append 86 = .ok (.iload 4, 2) := by decide +kernel
theorem dX4_append_88 : decode cX4_append 88 = .ok (.imul, 1) := by decide +kernel
theorem dX4_append_89 : decode cX4_append 89 = .ok (.lushr, 1) := by decide +kernel
theorem dX4_append_90 : decode cX4_append 90 = .ok (.ldc2_w 33, 3) := by decide +kernel
theorem dX4_append_93 : decode cX4_append 93 = .ok (.land, 1) := by decide +kernel
theorem dX4_append_94 : decode cX4_append 94 = .ok (.l2i, 1) := by decide +kernel
theorem dX4_append_95 : decode cX4_append 95 = .ok (.i2b, 1) := by decide +kernel
theorem dX4_append_96 : decode cX4_append 96 = .ok (.bastore, 1) := by decide +kernel
theorem dX4_append_97 : decode cX4_append 97 = .ok (.aload_n 0, 1) := by decide +kernel
theorem dX4_append_98 : decode cX4_append 98 = .ok (.dup, 1) := by decide +kernel
theorem dX4_append_99 : decode cX4_append 99 = .ok (.getfield 19, 3) := by decide +kernel
theorem dX4_append_102 : decode cX4_append 102 = .ok (.iconst 1, 1) := by decide +kernel
theorem dX4_append_103 : decode cX4_append 103 = .ok (.iadd, 1) := by decide +kernel
theorem dX4_append_104 : decode cX4_append 104 = .ok (.putfield 19, 3) := by decide +kernel
theorem dX4_append_107 : decode cX4_append 107 = .ok (.iinc 4 (-1), 3) := by decide +kernel
theorem dX4_append_110 : decode cX4_append 110 = .ok (.goto (-40), 3) := by decide +kernel
theorem dX4_append_113 : decode cX4_append 113 = .ok (.aload_n 0, 1) := by decide +kernel
theorem dX4_append_114 : decode cX4_append 114 = .ok (.getfield 19, 3) := by decide +kernel
theorem dX4_append_117 : decode cX4_append 117 = .ok (.ireturn, 1) := by decide +kernel
theorem dX4_readChannel_0 : decode cX4_readChannel 0 = .ok (.aload_n 0, 1) := by decide +kernel
theorem dX4_readChannel_1 : decode cX4_readChannel 1 = .ok (.invokevirtual 35, 3) := by decide +kernel
theorem dX4_readChannel_4 : decode cX4_readChannel 4 = .ok (.iconst 0, 1) := by decide +kernel
theorem dX4_readChannel_5 : decode cX4_readChannel 5 = .ok (.istore_n 1, 1) := by decide +kernel
theorem dX4_readChannel_6 : decode cX4_readChannel 6 = .ok (.aload_n 0, 1) := by decide +kernel
theorem dX4_readChannel_7 : decode cX4_readChannel 7 = .ok (.iload_n 1, 1) := by decide +kernel
theorem dX4_readChannel_8 : decode cX4_readChannel 8 = .ok (.bipush 6, 2) := by decide +kernel
theorem dX4_readChannel_10 : decode cX4_readChannel 10 = .ok (.imul, 1) := by decide +kernel
theorem dX4_readChannel_11 : decode cX4_readChannel 11 = .ok (.invokevirtual 38, 3) := by decide +kernel
theorem dX4_readChannel_14 : decode cX4_readChannel 14 = .ok (.iinc 1 1, 3) := by decide +kernel
theorem dX4_readChannel_17 : decode cX4_readChannel 17 = .ok (.iload_n 1, 1) := by decide +kernel
theorem dX4_readChannel_18 : decode cX4_readChannel 18 = .ok (.bipush 8, 2) := by decide +kernel
theorem dX4_readChannel_20 : decode cX4_readChannel 20 = .ok (.if_icmp .ge 12, 3) := by decide +kernel
theorem dX4_readChannel_23 : decode cX4_readChannel 23 = .ok (.aload_n 0, 1) := by decide +kernel
theorem dX4_readChannel_24 : decode cX4_readChannel 24 = .ok (.bipush 59, 2) := by decide +kernel
theorem dX4_readChannel_26 : decode cX4_readChannel 26 = .ok (.invokevirtual 42, 3) := by decide +kernel
theorem dX4_readChannel_29 : decode cX4_readChannel 29 = .ok (.ifCond .ne (-23), 3) := by decide +kernel
theorem dX4_readChannel_32 : decode cX4_readChannel 32 = .ok (.aload_n 0, 1) := by decide +kernel
theorem dX4_readChannel_33 : decode cX4_readChannel 33 = .ok (.iload_n 1, 1) := by decide +kernel
theorem dX4_readChannel_34 : decode cX4_readChannel 34 = .ok (.invokevirtual 46, 3) := by decide +kernel
theorem dX4_readChannel_37 : decode cX4_readChannel 37 = .ok (.ireturn, 1) := by decide +kernel
theorem dX4_readTide_0 : decode cX4_readTide 0 = .ok (.aload_n 0, 1) := by decide +kernel
theorem dX4_readTide_1 : decode cX4_readTide 1 = .ok (.invokevirtual 35, 3) := by decide +kernel
theorem dX4_readTide_4 : decode cX4_readTide 4 = .ok (.iconst 0, 1) := by decide +kernel
theorem dX4_readTide_5 : decode cX4_readTide 5 = .ok (.istore_n 1, 1) := by decide +kernel
theorem dX4_readTide_6 : decode cX4_readTide 6 = .ok (.iconst 0, 1) := by decide +kernel
theorem dX4_readTide_7 : decode cX4_readTide 7 = .ok (.istore_n 2, 1) := by decide +kernel
theorem dX4_readTide_8 : decode cX4_readTide 8 = .ok (.iload_n 2, 1) := by decide +kernel
theorem dX4_readTide_9 : decode cX4_readTide 9 = .ok (.bipush 24, 2) := by decide +kernel
theorem dX4_readTide_11 : decode cX4_readTide 11 = .ok (.if_icmp .ge 43, 3) := by decide +kernel
theorem dX4_readTide_14 : decode cX4_readTide 14 = .ok (.iload_n 2, 1) := by decide +kernel
theorem dX4_readTide_15 : decode cX4_readTide 15 = .ok (.ifCond .le 9, 3) := by decide +kernel
theorem dX4_readTide_18 : decode cX4_readTide 18 = .ok (.aload_n 0, 1) := by decide +kernel
theorem dX4_readTide_19 : decode cX4_readTide 19 = .ok (.bipush 44, 2) := by decide +kernel
theorem dX4_readTide_21 : decode cX4_readTide 21 = .ok (.invokevirtual 50, 3) := by decide +kernel
theorem dX4_readTide_24 : decode cX4_readTide 24 = .ok (.aload_n 0, 1) := by decide +kernel
theorem dX4_readTide_25 : decode cX4_readTide 25 = .ok (.getfield 9, 3) := by decide +kernel
theorem dX4_readTide_28 : decode cX4_readTide 28 = .ok (.iload_n 2, 1) := by decide +kernel
theorem dX4_readTide_29 : decode cX4_readTide 29 = .ok (.aload_n 0, 1) := by decide +kernel
theorem dX4_readTide_30 : decode cX4_readTide 30 = .ok (.iconst 0, 1) := by decide +kernel
theorem dX4_readTide_31 : decode cX4_readTide 31 = .ok (.bipush 99, 2) := by decide +kernel
theorem dX4_readTide_33 : decode cX4_readTide 33 = .ok (.invokevirtual 54, 3) := by decide +kernel
theorem dX4_readTide_36 : decode cX4_readTide 36 = .ok (.iastore, 1) := by decide +kernel
theorem dX4_readTide_37 : decode cX4_readTide 37 = .ok (.iload_n 1, 1) := by decide +kernel
theorem dX4_readTide_38 : decode cX4_readTide 38 = .ok (.aload_n 0, 1) := by decide +kernel
theorem dX4_readTide_39 : decode cX4_readTide 39 = .ok (.getfield 9, 3) := by decide +kernel
theorem dX4_readTide_42 : decode cX4_readTide 42 = .ok (.iload_n 2, 1) := by decide +kernel
theorem dX4_readTide_43 : decode cX4_readTide 43 = .ok (.iaload, 1) := by decide +kernel
theorem dX4_readTide_44 : decode cX4_readTide 44 = .ok (.invokestatic 58, 3) := by decide +kernel
theorem dX4_readTide_47 : decode cX4_readTide 47 = .ok (.istore_n 1, 1) := by decide +kernel
theorem dX4_readTide_48 : decode cX4_readTide 48 = .ok (.iinc 2 1, 3) := by decide +kernel
theorem dX4_readTide_51 : decode cX4_readTide 51 = .ok (.goto (-43), 3) := by decide +kernel
theorem dX4_readTide_54 : decode cX4_readTide 54 = .ok (.aload_n 0, 1) := by decide +kernel
theorem dX4_readTide_55 : decode cX4_readTide 55 = .ok (.iload_n 1, 1) := by decide +kernel
theorem dX4_readTide_56 : decode cX4_readTide 56 = .ok (.invokevirtual 46, 3) := by decide +kernel
theorem dX4_readTide_59 : decode cX4_readTide 59 = .ok (.ireturn, 1) := by decide +kernel
theorem dX4_readMile_0 : decode cX4_readMile 0 = .ok (.aload_n 0, 1) := by decide +kernel
theorem dX4_readMile_1 : decode cX4_readMile 1 = .ok (.getfield 9, 3) := by decide +kernel
theorem dX4_readMile_4 : decode cX4_readMile 4 = .ok (.iload_n 1, 1) := by decide +kernel
theorem dX4_readMile_5 : decode cX4_readMile 5 = .ok (.iconst 0, 1) := by decide +kernel
theorem dX4_readMile_6 : decode cX4_readMile 6 = .ok (.iadd, 1) := by decide +kernel
theorem dX4_readMile_7 : decode cX4_readMile 7 = .ok (.aload_n 0, 1) := by decide +kernel
theorem dX4_readMile_8 : decode cX4_readMile 8 = .ok (.iconst 0, 1) := by decide +kernel
theorem dX4_readMile_9 : decode cX4_readMile 9 = .ok (.invokevirtual 63, 3) := by decide +kernel
theorem dX4_readMile_12 : decode cX4_readMile 12 = .ok (.iastore, 1) := by decide +kernel
theorem dX4_readMile_13 : decode cX4_readMile 13 = .ok (.aload_n 0, 1) := by decide +kernel
theorem dX4_readMile_14 : decode cX4_readMile 14 = .ok (.bipush 119, 2) := by decide +kernel
theorem dX4_readMile_16 : decode cX4_readMile 16 = .ok (.invokevirtual 50, 3) := by decide +kernel
theorem dX4_readMile_19 : decode cX4_readMile 19 = .ok (.aload_n 0, 1) := by decide +kernel
theorem dX4_readMile_20 : decode cX4_readMile 20 = .ok (.getfield 9, 3) := by decide +kernel
theorem dX4_readMile_23 : decode cX4_readMile 23 = .ok (.iload_n 1, 1) := by decide +kernel
theorem dX4_readMile_24 : decode cX4_readMile 24 = .ok (.iconst 1, 1) := by decide +kernel
theorem dX4_readMile_25 : decode cX4_readMile 25 = .ok (.iadd, 1) := by decide +kernel
theorem dX4_readMile_26 : decode cX4_readMile 26 = .ok (.aload_n 0, 1) := by decide +kernel
theorem dX4_readMile_27 : decode cX4_readMile 27 = .ok (.iconst 1, 1) := by decide +kernel
theorem dX4_readMile_28 : decode cX4_readMile 28 = .ok (.invokevirtual 63, 3) := by decide +kernel
theorem dX4_readMile_31 : decode cX4_readMile 31 = .ok (.iastore, 1) := by decide +kernel
theorem dX4_readMile_32 : decode cX4_readMile 32 = .ok (.aload_n 0, 1) := by decide +kernel
theorem dX4_readMile_33 : decode cX4_readMile 33 = .ok (.getfield 9, 3) := by decide +kernel
theorem dX4_readMile_36 : decode cX4_readMile 36 = .ok (.iload_n 1, 1) := by decide +kernel
theorem dX4_readMile_37 : decode cX4_readMile 37 = .ok (.iconst 2, 1) := by decide +kernel
theorem dX4_readMile_38 : decode cX4_readMile 38 = .ok (.iadd, 1) := by decide +kernel
theorem dX4_readMile_39 : decode cX4_readMile 39 = .ok (.aload_n 0, 1) := by decide +kernel
theorem dX4_readMile_40 : decode cX4_readMile 40 = .ok (.bipush 115, 2) := by decide +kernel
theorem dX4_readMile_42 : decode cX4_readMile 42 = .ok (.invokevirtual 42, 3) := by decide +kernel
theorem dX4_readMile_45 : decode cX4_readMile 45 = .ok (.ifCond .eq 10, 3) := by decide +kernel
theorem dX4_readMile_48 : decode cX4_readMile 48 = .ok (.aload_n 0, 1) := by decide +kernel
theorem dX4_readMile_49 : decode cX4_readMile 49 = .ok (.invokevirtual 66, 3) := by decide +kernel
theorem dX4_readMile_52 : decode cX4_readMile 52 = .ok (.goto 5, 3) := by decide +kernel
theorem dX4_readMile_55 : decode cX4_readMile 55 = .ok (.bipush 9, 2) := by decide +kernel
theorem dX4_readMile_57 : decode cX4_readMile 57 = .ok (.iastore, 1) := by decide +kernel
theorem dX4_readMile_58 : decode cX4_readMile 58 = .ok (.aload_n 0, 1) := by decide +kernel
theorem dX4_readMile_59 : decode cX4_readMile 59 = .ok (.getfield 9, 3) := by decide +kernel
theorem dX4_readMile_62 : decode cX4_readMile 62 = .ok (.iload_n 1, 1) := by decide +kernel
theorem dX4_readMile_63 : decode cX4_readMile 63 = .ok (.iconst 3, 1) := by decide +kernel
theorem dX4_readMile_64 : decode cX4_readMile 64 = .ok (.iadd, 1) := by decide +kernel
theorem dX4_readMile_65 : decode cX4_readMile 65 = .ok (.aload_n 0, 1) := by decide +kernel
theorem dX4_readMile_66 : decode cX4_readMile 66 = .ok (.bipush 109, 2) := by decide +kernel
theorem dX4_readMile_68 : decode cX4_readMile 68 = .ok (.invokevirtual 42, 3) := by decide +kernel
theorem dX4_readMile_71 : decode cX4_readMile 71 = .ok (.ifCond .eq 11, 3) := by decide +kernel
theorem dX4_readMile_74 : decode cX4_readMile 74 = .ok (.aload_n 0, 1) := by decide +kernel
theorem dX4_readMile_75 : decode cX4_readMile 75 = .ok (.iconst 3, 1) := by decide +kernel
theorem dX4_readMile_76 : decode cX4_readMile 76 = .ok (.invokevirtual 63, 3) := by decide +kernel
theorem dX4_readMile_79 : decode cX4_readMile 79 = .ok (.goto 4, 3) := by decide +kernel
theorem dX4_readMile_82 : decode cX4_readMile 82 = .ok (.iconst 0, 1) := by decide +kernel
theorem dX4_readMile_83 : decode cX4_readMile 83 = .ok (.iastore, 1) := by decide +kernel
theorem dX4_readMile_84 : decode cX4_readMile 84 = .ok (.aload_n 0, 1) := by decide +kernel
theorem dX4_readMile_85 : decode cX4_readMile 85 = .ok (.getfield 9, 3) := by decide +kernel
theorem dX4_readMile_88 : decode cX4_readMile 88 = .ok (.iload_n 1, 1) := by decide +kernel
theorem dX4_readMile_89 : decode cX4_readMile 89 = .ok (.iconst 4, 1) := by decide +kernel
theorem dX4_readMile_90 : decode cX4_readMile 90 = .ok (.iadd, 1) := by decide +kernel
theorem dX4_readMile_91 : decode cX4_readMile 91 = .ok (.aload_n 0, 1) := by decide +kernel
theorem dX4_readMile_92 : decode cX4_readMile 92 = .ok (.bipush 113, 2) := by decide +kernel
theorem dX4_readMile_94 : decode cX4_readMile 94 = .ok (.invokevirtual 42, 3) := by decide +kernel
theorem dX4_readMile_97 : decode cX4_readMile 97 = .ok (.ifCond .eq 11, 3) := by decide +kernel
theorem dX4_readMile_100 : decode cX4_readMile 100 = .ok (.aload_n 0, 1) := by decide +kernel
theorem dX4_readMile_101 : decode cX4_readMile 101 = .ok (.iconst 4, 1) := by decide +kernel
theorem dX4_readMile_102 : decode cX4_readMile 102 = .ok (.invokevirtual 63, 3) := by decide +kernel
theorem dX4_readMile_105 : decode cX4_readMile 105 = .ok (.goto 4, 3) := by decide +kernel
theorem dX4_readMile_108 : decode cX4_readMile 108 = .ok (.iconst 0, 1) := by decide +kernel
theorem dX4_readMile_109 : decode cX4_readMile 109 = .ok (.iastore, 1) := by decide +kernel
theorem dX4_readMile_110 : decode cX4_readMile 110 = .ok (.aload_n 0, 1) := by decide +kernel
theorem dX4_readMile_111 : decode cX4_readMile 111 = .ok (.getfield 9, 3) := by decide +kernel
theorem dX4_readMile_114 : decode cX4_readMile 114 = .ok (.iload_n 1, 1) := by decide +kernel
theorem dX4_readMile_115 : decode cX4_readMile 115 = .ok (.iconst 5, 1) := by decide +kernel
theorem dX4_readMile_116 : decode cX4_readMile 116 = .ok (.iadd, 1) := by decide +kernel
theorem dX4_readMile_117 : decode cX4_readMile 117 = .ok (.bipush 8, 2) := by decide +kernel
theorem dX4_readMile_119 : decode cX4_readMile 119 = .ok (.iastore, 1) := by decide +kernel
theorem dX4_readMile_120 : decode cX4_readMile 120 = .ok (.return_, 1) := by decide +kernel
theorem dX4_rewind_0 : decode cX4_rewind 0 = .ok (.aload_n 0, 1) := by decide +kernel
theorem dX4_rewind_1 : decode cX4_rewind 1 = .ok (.iconst 0, 1) := by decide +kernel
theorem dX4_rewind_2 : decode cX4_rewind 2 = .ok (.putfield 23, 3) := by decide +kernel
theorem dX4_rewind_5 : decode cX4_rewind 5 = .ok (.aload_n 0, 1) := by decide +kernel
theorem dX4_rewind_6 : decode cX4_rewind 6 = .ok (.iconst 0, 1) := by decide +kernel
theorem dX4_rewind_7 : decode cX4_rewind 7 = .ok (.putfield 26, 3) := by decide +kernel
theorem dX4_rewind_10 : decode cX4_rewind 10 = .ok (.return_, 1) := by decide +kernel
theorem dX4_finish_0 : decode cX4_finish 0 = .ok (.aload_n 0, 1) := by decide +kernel
theorem dX4_finish_1 : decode cX4_finish 1 = .ok (.invokevirtual 70, 3) := by decide +kernel
theorem dX4_finish_4 : decode cX4_finish 4 = .ok (.aload_n 0, 1) := by decide +kernel
theorem dX4_finish_5 : decode cX4_finish 5 = .ok (.getfield 23, 3) := by decide +kernel
theorem dX4_finish_8 : decode cX4_finish 8 = .ok (.aload_n 0, 1) := by decide +kernel
theorem dX4_finish_9 : decode cX4_finish 9 = .ok (.getfield 19, 3) := by decide +kernel
theorem dX4_finish_12 : decode cX4_finish 12 = .ok (.if_icmp .ge 11, 3) := by decide +kernel
theorem dX4_finish_15 : decode cX4_finish 15 = .ok (.aload_n 0, 1) := by decide +kernel
theorem dX4_finish_16 : decode cX4_finish 16 = .ok (.aload_n 0, 1) := by decide +kernel
theorem dX4_finish_17 : decode cX4_finish 17 = .ok (.getfield 23, 3) := by decide +kernel
theorem dX4_finish_20 : decode cX4_finish 20 = .ok (.invokevirtual 73, 3) := by decide +kernel
theorem dX4_finish_23 : decode cX4_finish 23 = .ok (.aload_n 0, 1) := by decide +kernel
theorem dX4_finish_24 : decode cX4_finish 24 = .ok (.iconst 0, 1) := by decide +kernel
theorem dX4_finish_25 : decode cX4_finish 25 = .ok (.putfield 19, 3) := by decide +kernel
theorem dX4_finish_28 : decode cX4_finish 28 = .ok (.aload_n 0, 1) := by decide +kernel
theorem dX4_finish_29 : decode cX4_finish 29 = .ok (.getfield 26, 3) := by decide +kernel
theorem dX4_finish_32 : decode cX4_finish 32 = .ok (.ifCond .eq 10, 3) := by decide +kernel
theorem dX4_finish_35 : decode cX4_finish 35 = .ok (.aload_n 0, 1) := by decide +kernel
theorem dX4_finish_36 : decode cX4_finish 36 = .ok (.getfield 26, 3) := by decide +kernel
theorem dX4_finish_39 : decode cX4_finish 39 = .ok (.goto 4, 3) := by decide +kernel
theorem dX4_finish_42 : decode cX4_finish 42 = .ok (.iload_n 1, 1) := by decide +kernel
theorem dX4_finish_43 : decode cX4_finish 43 = .ok (.ireturn, 1) := by decide +kernel
theorem dX4_fail_0 : decode cX4_fail 0 = .ok (.aload_n 0, 1) := by decide +kernel
theorem dX4_fail_1 : decode cX4_fail 1 = .ok (.getfield 26, 3) := by decide +kernel
theorem dX4_fail_4 : decode cX4_fail 4 = .ok (.ifCond .ne 11, 3) := by decide +kernel
theorem dX4_fail_7 : decode cX4_fail 7 = .ok (.aload_n 0, 1) := by decide +kernel
theorem dX4_fail_8 : decode cX4_fail 8 = .ok (.bipush (-20), 2) := by decide +kernel
theorem dX4_fail_10 : decode cX4_fail 10 = .ok (.iload_n 1, 1) := by decide +kernel
theorem dX4_fail_11 : decode cX4_fail 11 = .ok (.isub, 1) := by decide +kernel
theorem dX4_fail_12 : decode cX4_fail 12 = .ok (.putfield 26, 3) := by decide +kernel
theorem dX4_fail_15 : decode cX4_fail 15 = .ok (.return_, 1) := by decide +kernel
theorem dX4_skipBlanks_0 : decode cX4_skipBlanks 0 = .ok (.aload_n 0, 1) := by decide +kernel
theorem dX4_skipBlanks_1 : decode cX4_skipBlanks 1 = .ok (.getfield 23, 3) := by decide +kernel
theorem dX4_skipBlanks_4 : decode cX4_skipBlanks 4 = .ok (.aload_n 0, 1) := by decide +kernel
theorem dX4_skipBlanks_5 : decode cX4_skipBlanks 5 = .ok (.getfield 19, 3) := by decide +kernel
theorem dX4_skipBlanks_8 : decode cX4_skipBlanks 8 = .ok (.if_icmp .ge 30, 3) := by decide +kernel
theorem dX4_skipBlanks_11 : decode cX4_skipBlanks 11 = .ok (.aload_n 0, 1) := by decide +kernel
theorem dX4_skipBlanks_12 : decode cX4_skipBlanks 12 = .ok (.getfield 15, 3) := by decide +kernel
theorem dX4_skipBlanks_15 : decode cX4_skipBlanks 15 = .ok (.aload_n 0, 1) := by decide +kernel
theorem dX4_skipBlanks_16 : decode cX4_skipBlanks 16 = .ok (.getfield 23, 3) := by decide +kernel
theorem dX4_skipBlanks_19 : decode cX4_skipBlanks 19 = .ok (.baload, 1) := by decide +kernel
theorem dX4_skipBlanks_20 : decode cX4_skipBlanks 20 = .ok (.bipush 32, 2) := by decide +kernel
theorem dX4_skipBlanks_22 : decode cX4_skipBlanks 22 = .ok (.if_icmp .ne 16, 3) := by decide +kernel
theorem dX4_skipBlanks_25 : decode cX4_skipBlanks 25 = .ok (.aload_n 0, 1) := by decide +kernel
theorem dX4_skipBlanks_26 : decode cX4_skipBlanks 26 = .ok (.dup, 1) := by decide +kernel
theorem dX4_skipBlanks_27 : decode cX4_skipBlanks 27 = .ok (.getfield 23, 3) := by decide +kernel
theorem dX4_skipBlanks_30 : decode cX4_skipBlanks 30 = .ok (.iconst 1, 1) := by decide +kernel
theorem dX4_skipBlanks_31 : decode cX4_skipBlanks 31 = .ok (.iadd, 1) := by decide +kernel
theorem dX4_skipBlanks_32 : decode cX4_skipBlanks 32 = .ok (.putfield 23, 3) := by decide +kernel
theorem dX4_skipBlanks_35 : decode cX4_skipBlanks 35 = .ok (.goto (-35), 3) := by decide +kernel
theorem dX4_skipBlanks_38 : decode cX4_skipBlanks 38 = .ok (.return_, 1) := by decide +kernel
theorem dX4_takes_0 : decode cX4_takes 0 = .ok (.aload_n 0, 1) := by decide +kernel
theorem dX4_takes_1 : decode cX4_takes 1 = .ok (.invokevirtual 70, 3) := by decide +kernel
theorem dX4_takes_4 : decode cX4_takes 4 = .ok (.aload_n 0, 1) := by decide +kernel
theorem dX4_takes_5 : decode cX4_takes 5 = .ok (.getfield 23, 3) := by decide +kernel
theorem dX4_takes_8 : decode cX4_takes 8 = .ok (.aload_n 0, 1) := by decide +kernel
theorem dX4_takes_9 : decode cX4_takes 9 = .ok (.getfield 19, 3) := by decide +kernel
theorem dX4_takes_12 : decode cX4_takes 12 = .ok (.if_icmp .ge 28, 3) := by decide +kernel
theorem dX4_takes_15 : decode cX4_takes 15 = .ok (.aload_n 0, 1) := by decide +kernel
theorem dX4_takes_16 : decode cX4_takes 16 = .ok (.getfield 15, 3) := by decide +kernel
theorem dX4_takes_19 : decode cX4_takes 19 = .ok (.aload_n 0, 1) := by decide +kernel
theorem dX4_takes_20 : decode cX4_takes 20 = .ok (.getfield 23, 3) := by decide +kernel
theorem dX4_takes_23 : decode cX4_takes 23 = .ok (.baload, 1) := by decide +kernel
theorem dX4_takes_24 : decode cX4_takes 24 = .ok (.iload_n 1, 1) := by decide +kernel
theorem dX4_takes_25 : decode cX4_takes 25 = .ok (.if_icmp .ne 15, 3) := by decide +kernel
theorem dX4_takes_28 : decode cX4_takes 28 = .ok (.aload_n 0, 1) := by decide +kernel
theorem dX4_takes_29 : decode cX4_takes 29 = .ok (.dup, 1) := by decide +kernel
theorem dX4_takes_30 : decode cX4_takes 30 = .ok (.getfield 23, 3) := by decide +kernel
theorem dX4_takes_33 : decode cX4_takes 33 = .ok (.iconst 1, 1) := by decide +kernel
theorem dX4_takes_34 : decode cX4_takes 34 = .ok (.iadd, 1) := by decide +kernel
theorem dX4_takes_35 : decode cX4_takes 35 = .ok (.putfield 23, 3) := by decide +kernel
theorem dX4_takes_38 : decode cX4_takes 38 = .ok (.iconst 1, 1) := by decide +kernel
theorem dX4_takes_39 : decode cX4_takes 39 = .ok (.ireturn, 1) := by decide +kernel
theorem dX4_takes_40 : decode cX4_takes 40 = .ok (.iconst 0, 1) := by decide +kernel
theorem dX4_takes_41 : decode cX4_takes 41 = .ok (.ireturn, 1) := by decide +kernel
theorem dX4_expect_0 : decode cX4_expect 0 = .ok (.aload_n 0, 1) := by decide +kernel
theorem dX4_expect_1 : decode cX4_expect 1 = .ok (.iload_n 1, 1) := by decide +kernel
theorem dX4_expect_2 : decode cX4_expect 2 = .ok (.invokevirtual 42, 3) := by decide +kernel
theorem dX4_expect_5 : decode cX4_expect 5 = .ok (.ifCond .ne 11, 3) := by decide +kernel
theorem dX4_expect_8 : decode cX4_expect 8 = .ok (.aload_n 0, 1) := by decide +kernel
theorem dX4_expect_9 : decode cX4_expect 9 = .ok (.aload_n 0, 1) := by decide +kernel
theorem dX4_expect_10 : decode cX4_expect 10 = .ok (.getfield 23, 3) := by decide +kernel
theorem dX4_expect_13 : decode cX4_expect 13 = .ok (.invokevirtual 73, 3) := by decide +kernel
theorem dX4_expect_16 : decode cX4_expect 16 = .ok (.return_, 1) := by decide +kernel
