theorem dX7_isPlaced_0 : decode cX7_isPlaced 0 = .ok (.aload_n 0, 1) := by decide +kernel
theorem dX7_isPlaced_1 : decode cX7_isPlaced 1 = .ok (.getfield 10, 3) := by decide +kernel
theorem dX7_isPlaced_4 : decode cX7_isPlaced 4 = .ok (.iload_n 1, 1) := by decide +kernel
theorem dX7_isPlaced_5 : decode cX7_isPlaced 5 = .ok (.invokevirtual 168, 3) := by decide +kernel
theorem dX7_isPlaced_8 : decode cX7_isPlaced 8 = .ok (.ifCond .eq 37, 3) := by decide +kernel
theorem dX7_isPlaced_11 : decode cX7_isPlaced 11 = .ok (.aload_n 0, 1) := by decide +kernel
theorem dX7_isPlaced_12 : decode cX7_isPlaced 12 = .ok (.getfield 10, 3) := by decide +kernel
theorem dX7_isPlaced_15 : decode cX7_isPlaced 15 = .ok (.iload_n 2, 1) := by decide +kernel
theorem dX7_isPlaced_16 : decode cX7_isPlaced 16 = .ok (.invokevirtual 79, 3) := by decide +kernel
theorem dX7_isPlaced_19 : decode cX7_isPlaced 19 = .ok (.ifCond .eq 26, 3) := by decide +kernel
theorem dX7_isPlaced_22 : decode cX7_isPlaced 22 = .ok (.iload_n 3, 1) := by decide +kernel
theorem dX7_isPlaced_23 : decode cX7_isPlaced 23 = .ok (.iconst 0, 1) := by decide +kernel
theorem dX7_isPlaced_24 : decode cX7_isPlaced 24 = .ok (.sipush 4000, 3) := by decide +kernel
theorem dX7_isPlaced_27 : decode cX7_isPlaced 27 = .ok (.invokestatic 83, 3) := by decide +kernel
theorem dX7_isPlaced_30 : decode cX7_isPlaced 30 = .ok (.ifCond .eq 15, 3) := by decide +kernel
theorem dX7_isPlaced_33 : decode cX7_isPlaced 33 = .ok (.iload 4, 2) := by decide +kernel
theorem dX7_isPlaced_35 : decode cX7_isPlaced 35 = .ok (.invokestatic 106, 3) := by decide +kernel
theorem dX7_isPlaced_38 : decode cX7_isPlaced 38 = .ok (.ifCond .eq 7, 3) := by decide +kernel
theorem dX7_isPlaced_41 : decode cX7_isPlaced 41 = .ok (.iconst 1, 1) := by decide +kernel
theorem dX7_isPlaced_42 : decode cX7_isPlaced 42 = .ok (.goto 4, 3) := by decide +kernel
theorem dX7_isPlaced_45 : decode cX7_isPlaced 45 = .ok (.iconst 0, 1) := by decide +kernel
theorem dX7_isPlaced_46 : decode cX7_isPlaced 46 = .ok (.ireturn, 1) := by decide +kernel
theorem dX7_areTwo_0 : decode cX7_areTwo 0 = .ok (.aload_n 0, 1) := by decide +kernel
theorem dX7_areTwo_1 : decode cX7_areTwo 1 = .ok (.getfield 10, 3) := by decide +kernel
theorem dX7_areTwo_4 : decode cX7_areTwo 4 = .ok (.iload_n 1, 1) := by decide +kernel
theorem dX7_areTwo_5 : decode cX7_areTwo 5 = .ok (.invokevirtual 168, 3) := by decide +kernel
theorem dX7_areTwo_8 : decode cX7_areTwo 8 = .ok (.ifCond .eq 23, 3) := by decide +kernel
theorem dX7_areTwo_11 : decode cX7_areTwo 11 = .ok (.aload_n 0, 1) := by decide +kernel
theorem dX7_areTwo_12 : decode cX7_areTwo 12 = .ok (.getfield 10, 3) := by decide +kernel
theorem dX7_areTwo_15 : decode cX7_areTwo 15 = .ok (.iload_n 2, 1) := by decide +kernel
theorem dX7_areTwo_16 : decode cX7_areTwo 16 = .ok (.invokevirtual 168, 3) := by decide +kernel
theorem dX7_areTwo_19 : decode cX7_areTwo 19 = .ok (.ifCond .eq 12, 3) := by decide +kernel
theorem dX7_areTwo_22 : decode cX7_areTwo 22 = .ok (.iload_n 1, 1) := by decide +kernel
theorem dX7_areTwo_23 : decode cX7_areTwo 23 = .ok (.iload_n 2, 1) := by decide +kernel
theorem dX7_areTwo_24 : decode cX7_areTwo 24 = .ok (.if_icmp .eq 7, 3) := by decide +kernel
theorem dX7_areTwo_27 : decode cX7_areTwo 27 = .ok (.iconst 1, 1) := by decide +kernel
theorem dX7_areTwo_28 : decode cX7_areTwo 28 = .ok (.goto 4, 3) := by decide +kernel
theorem dX7_areTwo_31 : decode cX7_areTwo 31 = .ok (.iconst 0, 1) := by decide +kernel
theorem dX7_areTwo_32 : decode cX7_areTwo 32 = .ok (.ireturn, 1) := by decide +kernel
theorem dX7_isHeld_0 : decode cX7_isHeld 0 = .ok (.aload_n 0, 1) := by decide +kernel
theorem dX7_isHeld_1 : decode cX7_isHeld 1 = .ok (.getfield 10, 3) := by decide +kernel
theorem dX7_isHeld_4 : decode cX7_isHeld 4 = .ok (.iload_n 1, 1) := by decide +kernel
theorem dX7_isHeld_5 : decode cX7_isHeld 5 = .ok (.iconst 2, 1) := by decide +kernel
theorem dX7_isHeld_6 : decode cX7_isHeld 6 = .ok (.invokevirtual 251, 3) := by decide +kernel
theorem dX7_isHeld_9 : decode cX7_isHeld 9 = .ok (.istore 4, 2) := by decide +kernel
theorem dX7_isHeld_11 : decode cX7_isHeld 11 = .ok (.iload_n 2, 1) := by decide +kernel
theorem dX7_isHeld_12 : decode cX7_isHeld 12 = .ok (.iconst 3, 1) := by decide +kernel
theorem dX7_isHeld_13 : decode cX7_isHeld 13 = .ok (.if_icmp .gt 10, 3) := by decide +kernel
theorem dX7_isHeld_16 : decode cX7_isHeld 16 = .ok (.iload 4, 2) := by decide +kernel
theorem dX7_isHeld_18 : decode cX7_isHeld 18 = .ok (.iconst 2, 1) := by decide +kernel
theorem dX7_isHeld_19 : decode cX7_isHeld 19 = .ok (.idiv, 1) := by decide +kernel
theorem dX7_isHeld_20 : decode cX7_isHeld 20 = .ok (.goto 5, 3) := by decide +kernel
theorem dX7_isHeld_23 : decode cX7_isHeld 23 = .ok (.iload 4, 2) := by decide +kernel
theorem dX7_isHeld_25 : decode cX7_isHeld 25 = .ok (.istore 5, 2) := by decide +kernel
theorem dX7_isHeld_27 : decode cX7_isHeld 27 = .ok (.iload_n 3, 1) := by decide +kernel
theorem dX7_isHeld_28 : decode cX7_isHeld 28 = .ok (.iconst 1, 1) := by decide +kernel
theorem dX7_isHeld_29 : decode cX7_isHeld 29 = .ok (.if_icmp .lt 29, 3) := by decide +kernel
theorem dX7_isHeld_32 : decode cX7_isHeld 32 = .ok (.iload_n 2, 1) := by decide +kernel
theorem dX7_isHeld_33 : decode cX7_isHeld 33 = .ok (.iload_n 2, 1) := by decide +kernel
theorem dX7_isHeld_34 : decode cX7_isHeld 34 = .ok (.imul, 1) := by decide +kernel
theorem dX7_isHeld_35 : decode cX7_isHeld 35 = .ok (.aload_n 0, 1) := by decide +kernel
theorem dX7_isHeld_36 : decode cX7_isHeld 36 = .ok (.getfield 10, 3) := by decide +kernel
theorem dX7_isHeld_39 : decode cX7_isHeld 39 = .ok (.iload_n 1, 1) := by decide +kernel
theorem dX7_isHeld_40 : decode cX7_isHeld 40 = .ok (.iconst 1, 1) := by decide +kernel
theorem dX7_isHeld_41 : decode cX7_isHeld 41 = .ok (.invokevirtual 251, 3) := by decide +kernel
theorem dX7_isHeld_44 : decode cX7_isHeld 44 = .ok (.imul, 1) := by decide +kernel
theorem dX7_isHeld_45 : decode cX7_isHeld 45 = .ok (.iload_n 3, 1) := by decide +kernel
theorem dX7_isHeld_46 : decode cX7_isHeld 46 = .ok (.iload_n 3, 1) := by decide +kernel
theorem dX7_isHeld_47 : decode cX7_isHeld 47 = .ok (.imul, 1) := by decide +kernel
theorem dX7_isHeld_48 : decode cX7_isHeld 48 = .ok (.idiv, 1) := by decide +kernel
theorem dX7_isHeld_49 : decode cX7_isHeld 49 = .ok (.iload 5, 2) := by decide +kernel
theorem dX7_isHeld_51 : decode cX7_isHeld 51 = .ok (.if_icmp .gt 7, 3) := by decide +kernel
theorem dX7_isHeld_54 : decode cX7_isHeld 54 = .ok (.iconst 1, 1) := by decide +kernel
theorem dX7_isHeld_55 : decode cX7_isHeld 55 = .ok (.goto 4, 3) := by decide +kernel
theorem dX7_isHeld_58 : decode cX7_isHeld 58 = .ok (.iconst 0, 1) := by decide +kernel
theorem dX7_isHeld_59 : decode cX7_isHeld 59 = .ok (.ireturn, 1) := by decide +kernel
theorem dX7_latesBy_0 : decode cX7_latesBy 0 = .ok (.iconst 0, 1) := by decide +kernel
theorem dX7_latesBy_1 : decode cX7_latesBy 1 = .ok (.istore 5, 2) := by decide +kernel
theorem dX7_latesBy_3 : decode cX7_latesBy 3 = .ok (.bipush (-4), 2) := by decide +kernel
theorem dX7_latesBy_5 : decode cX7_latesBy 5 = .ok (.istore 6, 2) := by decide +kernel
theorem dX7_latesBy_7 : decode cX7_latesBy 7 = .ok (.bipush (-4), 2) := by decide +kernel
theorem dX7_latesBy_9 : decode cX7_latesBy 9 = .ok (.istore 7, 2) := by decide +kernel
theorem dX7_latesBy_11 : decode cX7_latesBy 11 = .ok (.iconst 0, 1) := by decide +kernel
theorem dX7_latesBy_12 : decode cX7_latesBy 12 = .ok (.istore 8, 2) := by decide +kernel
theorem dX7_latesBy_14 : decode cX7_latesBy 14 = .ok (.iload 8, 2) := by decide +kernel
theorem dX7_latesBy_16 : decode cX7_latesBy 16 = .ok (.getstatic 97, 3) := by decide +kernel
theorem dX7_latesBy_19 : decode cX7_latesBy 19 = .ok (.iconst 0, 1) := by decide +kernel
theorem dX7_latesBy_20 : decode cX7_latesBy 20 = .ok (.iaload, 1) := by decide +kernel
theorem dX7_latesBy_21 : decode cX7_latesBy 21 = .ok (.if_icmp .gt 44, 3) := by decide +kernel
theorem dX7_latesBy_24 : decode cX7_latesBy 24 = .ok (.aload_n 0, 1) := by decide +kernel
theorem dX7_latesBy_25 : decode cX7_latesBy 25 = .ok (.iload 8, 2) := by decide +kernel
theorem dX7_latesBy_27 : decode cX7_latesBy 27 = .ok (.iload_n 1, 1) := by decide +kernel
theorem dX7_latesBy_28 : decode cX7_latesBy 28 = .ok (.iload_n 2, 1) := by decide +kernel
theorem dX7_latesBy_29 : decode cX7_latesBy 29 = .ok (.iload_n 3, 1) := by decide +kernel
theorem dX7_latesBy_30 : decode cX7_latesBy 30 = .ok (.invokevirtual 310, 3) := by decide +kernel
theorem dX7_latesBy_33 : decode cX7_latesBy 33 = .ok (.ifCond .eq 26, 3) := by decide +kernel
theorem dX7_latesBy_36 : decode cX7_latesBy 36 = .ok (.iinc 5 1, 3) := by decide +kernel
theorem dX7_latesBy_39 : decode cX7_latesBy 39 = .ok (.iload 6, 2) := by decide +kernel
theorem dX7_latesBy_41 : decode cX7_latesBy 41 = .ok (.bipush (-4), 2) := by decide +kernel
theorem dX7_latesBy_43 : decode cX7_latesBy 43 = .ok (.if_icmp .ne 8, 3) := by decide +kernel
theorem dX7_latesBy_46 : decode cX7_latesBy 46 = .ok (.iload 8, 2) := by decide +kernel
theorem dX7_latesBy_48 : decode cX7_latesBy 48 = .ok (.goto 5, 3) := by decide +kernel
theorem dX7_latesBy_51 : decode cX7_latesBy 51 = .ok (.iload 6, 2) := by decide +kernel
theorem dX7_latesBy_53 : decode cX7_latesBy 53 = .ok (.istore 6, 2) := by decide +kernel
theorem dX7_latesBy_55 : decode cX7_latesBy 55 = .ok (.iload 8, 2) := by decide +kernel
theorem dX7_latesBy_57 : decode cX7_latesBy 57 = .ok (.istore 7, 2) := by decide +kernel
theorem dX7_latesBy_59 : decode cX7_latesBy 59 = .ok (.iinc 8 1, 3) := by decide +kernel
theorem dX7_latesBy_62 : decode cX7_latesBy 62 = .ok (.goto (-48), 3) := by decide +kernel
theorem dX7_latesBy_65 : decode cX7_latesBy 65 = .ok (.iload 4, 2) := by decide +kernel
theorem dX7_latesBy_67 : decode cX7_latesBy 67 = .ok (.ifCond .ne 8, 3) := by decide +kernel
theorem dX7_latesBy_70 : decode cX7_latesBy 70 = .ok (.iload 5, 2) := by decide +kernel
theorem dX7_latesBy_72 : decode cX7_latesBy 72 = .ok (.goto 16, 3) := by decide +kernel
theorem dX7_latesBy_75 : decode cX7_latesBy 75 = .ok (.iload 4, 2) := by decide +kernel
theorem dX7_latesBy_77 : decode cX7_latesBy 77 = .ok (.iconst 1, 1) := by decide +kernel
theorem dX7_latesBy_78 : decode cX7_latesBy 78 = .ok (.if_icmp .ne 8, 3) := by decide +kernel
theorem dX7_latesBy_81 : decode cX7_latesBy 81 = .ok (.iload 6, 2) := by decide +kernel
theorem dX7_latesBy_83 : decode cX7_latesBy 83 = .ok (.goto 5, 3) := by decide +kernel
theorem dX7_latesBy_86 : decode cX7_latesBy 86 = .ok (.iload 7, 2) := by decide +kernel
theorem dX7_latesBy_88 : decode cX7_latesBy 88 = .ok (.ireturn, 1) := by decide +kernel
theorem dX7_isLate_0 : decode cX7_isLate 0 = .ok (.iconst 0, 1) := by decide +kernel
theorem dX7_isLate_1 : decode cX7_isLate 1 = .ok (.istore 5, 2) := by decide +kernel
theorem dX7_isLate_3 : decode cX7_isLate 3 = .ok (.iload 5, 2) := by decide +kernel
theorem dX7_isLate_5 : decode cX7_isLate 5 = .ok (.iload 4, 2) := by decide +kernel
theorem dX7_isLate_7 : decode cX7_isLate 7 = .ok (.if_icmp .ge 52, 3) := by decide +kernel
theorem dX7_isLate_10 : decode cX7_isLate 10 = .ok (.iload_n 3, 1) := by decide +kernel
theorem dX7_isLate_11 : decode cX7_isLate 11 = .ok (.iconst 2, 1) := by decide +kernel
theorem dX7_isLate_12 : decode cX7_isLate 12 = .ok (.iload 5, 2) := by decide +kernel
theorem dX7_isLate_14 : decode cX7_isLate 14 = .ok (.imul, 1) := by decide +kernel
theorem dX7_isLate_15 : decode cX7_isLate 15 = .ok (.iadd, 1) := by decide +kernel
theorem dX7_isLate_16 : decode cX7_isLate 16 = .ok (.istore 6, 2) := by decide +kernel
theorem dX7_isLate_18 : decode cX7_isLate 18 = .ok (.aload_n 0, 1) := by decide +kernel
theorem dX7_isLate_19 : decode cX7_isLate 19 = .ok (.getfield 10, 3) := by decide +kernel
theorem dX7_isLate_22 : decode cX7_isLate 22 = .ok (.iload_n 1, 1) := by decide +kernel
theorem dX7_isLate_23 : decode cX7_isLate 23 = .ok (.aload_n 0, 1) := by decide +kernel
theorem dX7_isLate_24 : decode cX7_isLate 24 = .ok (.getfield 59, 3) := by decide +kernel
theorem dX7_isLate_27 : decode cX7_isLate 27 = .ok (.iload_n 2, 1) := by decide +kernel
theorem dX7_isLate_28 : decode cX7_isLate 28 = .ok (.iload 6, 2) := by decide +kernel
theorem dX7_isLate_30 : decode cX7_isLate 30 = .ok (.invokevirtual 288, 3) := by decide +kernel
theorem dX7_isLate_33 : decode cX7_isLate 33 = .ok (.invokevirtual 313, 3) := by decide +kernel
theorem dX7_isLate_36 : decode cX7_isLate 36 = .ok (.aload_n 0, 1) := by decide +kernel
theorem dX7_isLate_37 : decode cX7_isLate 37 = .ok (.getfield 59, 3) := by decide +kernel
theorem dX7_isLate_40 : decode cX7_isLate 40 = .ok (.iload_n 2, 1) := by decide +kernel
theorem dX7_isLate_41 : decode cX7_isLate 41 = .ok (.iload 6, 2) := by decide +kernel
theorem dX7_isLate_43 : decode cX7_isLate 43 = .ok (.iconst 1, 1) := by decide +kernel
theorem dX7_isLate_44 : decode cX7_isLate 44 = .ok (.iadd, 1) := by decide +kernel
theorem dX7_isLate_45 : decode cX7_isLate 45 = .ok (.invokevirtual 288, 3) := by decide +kernel
theorem dX7_isLate_48 : decode cX7_isLate 48 = .ok (.if_icmp .eq 5, 3) := by decide +kernel
theorem dX7_isLate_51 : decode cX7_isLate 51 = .ok (.iconst 0, 1) := by decide +kernel
theorem dX7_isLate_52 : decode cX7_isLate 52 = .ok (.ireturn, 1) := by decide +kernel
theorem dX7_isLate_53 : decode cX7_isLate 53 = .ok (.iinc 5 1, 3) := by decide +kernel
theorem dX7_isLate_56 : decode cX7_isLate 56 = .ok (.goto (-53), 3) := by decide +kernel
theorem dX7_isLate_59 : decode cX7_isLate 59 = .ok (.iconst 1, 1) := by decide +kernel
theorem dX7_isLate_60 : decode cX7_isLate 60 = .ok (.ireturn, 1) := by decide +kernel
theorem dX7_minutesBy_0 : decode cX7_minutesBy 0 = .ok (.bipush 60, 2) := by decide +kernel
theorem dX7_minutesBy_2 : decode cX7_minutesBy 2 = .ok (.iconst 1, 1) := by decide +kernel
theorem dX7_minutesBy_3 : decode cX7_minutesBy 3 = .ok (.iload_n 0, 1) := by decide +kernel
theorem dX7_minutesBy_4 : decode cX7_minutesBy 4 = .ok (.invokestatic 235, 3) := by decide +kernel
theorem dX7_minutesBy_7 : decode cX7_minutesBy 7 = .ok (.idiv, 1) := by decide +kernel
theorem dX7_minutesBy_8 : decode cX7_minutesBy 8 = .ok (.ireturn, 1) := by decide +kernel
theorem dX7_hasBit_0 : decode cX7_hasBit 0 = .ok (.iload_n 1, 1) := by decide +kernel
theorem dX7_hasBit_1 : decode cX7_hasBit 1 = .ok (.iconst 0, 1) := by decide +kernel
theorem dX7_hasBit_2 : decode cX7_hasBit 2 = .ok (.aload_n 0, 1) := by decide +kernel
theorem dX7_hasBit_3 : decode cX7_hasBit 3 = .ok (.arraylength, 1) := by decide +kernel
theorem dX7_hasBit_4 : decode cX7_hasBit 4 = .ok (.bipush 64, 2) := by decide +kernel
theorem dX7_hasBit_6 : decode cX7_hasBit 6 = .ok (.imul, 1) := by decide +kernel
theorem dX7_hasBit_7 : decode cX7_hasBit 7 = .ok (.iconst 1, 1) := by decide +kernel
theorem dX7_hasBit_8 : decode cX7_hasBit 8 = .ok (.isub, 1) := by decide +kernel
theorem dX7_hasBit_9 : decode cX7_hasBit 9 = .ok (.invokestatic 83, 3) := by decide +kernel
theorem dX7_hasBit_12 : decode cX7_hasBit 12 = .ok (.ifCond .eq 25, 3) := by decide +kernel
theorem dX7_hasBit_15 : decode cX7_hasBit 15 = .ok (.aload_n 0, 1) := by decide +kernel
theorem dX7_hasBit_16 : decode cX7_hasBit 16 = .ok (.iload_n 1, 1) := by decide +kernel
theorem dX7_hasBit_17 : decode cX7_hasBit 17 = .ok (.bipush 64, 2) := by decide +kernel
theorem dX7_hasBit_19 : decode cX7_hasBit 19 = .ok (.idiv, 1) := by decide +kernel
theorem dX7_hasBit_20 : decode cX7_hasBit 20 = .ok (.laload, 1) := by decide +kernel
theorem dX7_hasBit_21 : decode cX7_hasBit 21 = .ok (.iload_n 1, 1) := by decide +kernel
theorem dX7_hasBit_22 : decode cX7_hasBit 22 = .ok (.bipush 64, 2) := by decide +kernel
theorem dX7_hasBit_24 : decode cX7_hasBit 24 = .ok (.irem, 1) := by decide +kernel
theorem dX7_hasBit_25 : decode cX7_hasBit 25 = .ok (.lushr, 1) := by decide +kernel
theorem dX7_hasBit_26 : decode cX7_hasBit 26 = .ok (.lconst 1, 1) := by decide +kernel
theorem dX7_hasBit_27 : decode cX7_hasBit 27 = .ok (.land, 1) := by decide +kernel
theorem dX7_hasBit_28 : decode cX7_hasBit 28 = .ok (.lconst 0, 1) := by decide +kernel
theorem dX7_hasBit_29 : decode cX7_hasBit 29 = .ok (.lcmp, 1) := by decide +kernel
theorem dX7_hasBit_30 : decode cX7_hasBit 30 = .ok (.ifCond .eq 7, 3) := by decide +kernel
theorem dX7_hasBit_33 : decode cX7_hasBit 33 = .ok (.iconst 1, 1) := by decide +kernel
theorem dX7_hasBit_34 : decode cX7_hasBit 34 = .ok (.goto 4, 3) := by decide +kernel
theorem dX7_hasBit_37 : decode cX7_hasBit 37 = .ok (.iconst 0, 1) := by decide +kernel
theorem dX7_hasBit_38 : decode cX7_hasBit 38 = .ok (.ireturn, 1) := by decide +kernel
theorem dX7_putBit_0 : decode cX7_putBit 0 = .ok (.iload_n 1, 1) := by decide +kernel
theorem dX7_putBit_1 : decode cX7_putBit 1 = .ok (.iconst 0, 1) := by decide +kernel
theorem dX7_putBit_2 : decode cX7_putBit 2 = .ok (.aload_n 0, 1) := by decide +kernel
theorem dX7_putBit_3 : decode cX7_putBit 3 = .ok (.arraylength, 1) := by decide +kernel
theorem dX7_putBit_4 : decode cX7_putBit 4 = .ok (.bipush 64, 2) := by decide +kernel
theorem dX7_putBit_6 : decode cX7_putBit 6 = .ok (.imul, 1) := by decide +kernel
theorem dX7_putBit_7 : decode cX7_putBit 7 = .ok (.iconst 1, 1) := by decide +kernel
theorem dX7_putBit_8 : decode cX7_putBit 8 = .ok (.isub, 1) := by decide +kernel
theorem dX7_putBit_9 : decode cX7_putBit 9 = .ok (.invokestatic 83, 3) := by decide +kernel
theorem dX7_putBit_12 : decode cX7_putBit 12 = .ok (.ifCond .eq 18, 3) := by decide +kernel
theorem dX7_putBit_15 : decode cX7_putBit 15 = .ok (.aload_n 0, 1) := by decide +kernel
theorem dX7_putBit_16 : decode cX7_putBit 16 = .ok (.iload_n 1, 1) := by decide +kernel
theorem dX7_putBit_17 : decode cX7_putBit 17 = .ok (.bipush 64, 2) := by decide +kernel
theorem dX7_putBit_19 : decode cX7_putBit 19 = .ok (.idiv, 1) := by decide +kernel
theorem dX7_putBit_20 : decode cX7_putBit 20 = .ok (.dup2, 1) := by decide +kernel
theorem dX7_putBit_21 : decode cX7_putBit 21 = .ok (.laload, 1) := by decide +kernel
theorem dX7_putBit_22 : decode cX7_putBit 22 = .ok (.lconst 1, 1) := by decide +kernel
theorem dX7_putBit_23 : decode cX7_putBit 23 = .ok (.iload_n 1, 1) := by decide +kernel
theorem dX7_putBit_24 : decode cX7_putBit 24 = .ok (.bipush 64, 2) := by decide +kernel
theorem dX7_putBit_26 : decode cX7_putBit 26 = .ok (.irem, 1) := by decide +kernel
theorem dX7_putBit_27 : decode cX7_putBit 27 = .ok (.lshl, 1) := by decide +kernel
theorem dX7_putBit_28 : decode cX7_putBit 28 = .ok (.lor, 1) := by decide +kernel
theorem dX7_putBit_29 : decode cX7_putBit 29 = .ok (.lastore, 1) := by decide +kernel
theorem dX7_putBit_30 : decode cX7_putBit 30 = .ok (.return_, 1) := by decide +kernel
theorem dX7_bitsIn_0 : decode cX7_bitsIn 0 = .ok (.iconst 0, 1) := by decide +kernel
theorem dX7_bitsIn_1 : decode cX7_bitsIn 1 = .ok (.istore_n 1, 1) := by decide +kernel
theorem dX7_bitsIn_2 : decode cX7_bitsIn 2 = .ok (.iconst 0, 1) := by decide +kernel
theorem dX7_bitsIn_3 : decode cX7_bitsIn 3 = .ok (.istore_n 2, 1) := by decide +kernel
theorem dX7_bitsIn_4 : decode cX7_bitsIn 4 = .ok (.iload_n 2, 1) := by decide +kernel
theorem dX7_bitsIn_5 : decode cX7_bitsIn 5 = .ok (.aload_n 0, 1) := by decide +kernel
theorem dX7_bitsIn_6 : decode cX7_bitsIn 6 = .ok (.arraylength, 1) := by decide +kernel
theorem dX7_bitsIn_7 : decode cX7_bitsIn 7 = .ok (.if_icmp .ge 18, 3) := by decide +kernel
theorem dX7_bitsIn_10 : decode cX7_bitsIn 10 = .ok (.iload_n 1, 1) := by decide +kernel
theorem dX7_bitsIn_11 : decode cX7_bitsIn 11 = .ok (.aload_n 0, 1) := by decide +kernel
theorem dX7_bitsIn_12 : decode cX7_bitsIn 12 = .ok (.iload_n 2, 1) := by decide +kernel
theorem dX7_bitsIn_13 : decode cX7_bitsIn 13 = .ok (.laload, 1) := by decide +kernel
theorem dX7_bitsIn_14 : decode cX7_bitsIn 14 = .ok (.invokestatic 316, 3) := by decide +kernel
theorem dX7_bitsIn_17 : decode cX7_bitsIn 17 = .ok (.iadd, 1) := by decide +kernel
theorem dX7_bitsIn_18 : decode cX7_bitsIn 18 = .ok (.istore_n 1, 1) := by decide +kernel
theorem dX7_bitsIn_19 : decode cX7_bitsIn 19 = .ok (.iinc 2 1, 3) := by decide +kernel
theorem dX7_bitsIn_22 : decode cX7_bitsIn 22 = .ok (.goto (-18), 3) := by decide +kernel
theorem dX7_bitsIn_25 : decode cX7_bitsIn 25 = .ok (.iload_n 1, 1) := by decide +kernel
theorem dX7_bitsIn_26 : decode cX7_bitsIn 26 = .ok (.ireturn, 1) := by decide +kernel
theorem dX7_firstFrom_0 : decode cX7_firstFrom 0 = .ok (.iload_n 1, 1) := by decide +kernel
theorem dX7_firstFrom_1 : decode cX7_firstFrom 1 = .ok (.ifCond .ge 6, 3) := by decide +kernel
theorem dX7_firstFrom_4 : decode cX7_firstFrom 4 = .ok (.bipush (-4), 2) := by decide +kernel
theorem dX7_firstFrom_6 : decode cX7_firstFrom 6 = .ok (.ireturn, 1) := by decide +kernel
theorem dX7_firstFrom_7 : decode cX7_firstFrom 7 = .ok (.ldc2_w 322, 3) := by decide +kernel
theorem dX7_firstFrom_10 : decode cX7_firstFrom 10 = .ok (.iload_n 1, 1) := by decide +kernel
theorem dX7_firstFrom_11 : decode cX7_firstFrom 11 = .ok (.bipush 64, 2) := by decide +kernel
theorem dX7_firstFrom_13 : decode cX7_firstFrom 13 = .ok (.irem, 1) := by decide +kernel
theorem dX7_firstFrom_14 : decode cX7_firstFrom 14 = .ok (.lshl, 1) := by decide +kernel
theorem dX7_firstFrom_15 : decode cX7_firstFrom 15 = .ok (.lstore_n 2, 1) := by decide +kernel
theorem dX7_firstFrom_16 : decode cX7_firstFrom 16 = .ok (.iload_n 1, 1) := by decide +kernel
theorem dX7_firstFrom_17 : decode cX7_firstFrom 17 = .ok (.bipush 64, 2) := by decide +kernel
theorem dX7_firstFrom_19 : decode cX7_firstFrom 19 = .ok (.idiv, 1) := by decide +kernel
theorem dX7_firstFrom_20 : decode cX7_firstFrom 20 = .ok (.istore 4, 2) := by decide +kernel
theorem dX7_firstFrom_22 : decode cX7_firstFrom 22 = .ok (.iload 4, 2) := by decide +kernel
theorem dX7_firstFrom_24 : decode cX7_firstFrom 24 = .ok (.aload_n 0, 1) := by decide +kernel
theorem dX7_firstFrom_25 : decode cX7_firstFrom 25 = .ok (.arraylength, 1) := by decide +kernel
theorem dX7_firstFrom_26 : decode cX7_firstFrom 26 = .ok (.if_icmp .ge 46, 3) := by decide +kernel
theorem dX7_firstFrom_29 : decode cX7_firstFrom 29 = .ok (.aload_n 0, 1) := by decide +kernel
theorem dX7_firstFrom_30 : decode cX7_firstFrom 30 = .ok (.iload 4, 2) := by decide +kernel
theorem dX7_firstFrom_32 : decode cX7_firstFrom 32 = .ok (.laload, 1) := by decide +kernel
theorem dX7_firstFrom_33 : decode cX7_firstFrom 33 = .ok (.lload_n 2, 1) := by decide +kernel
theorem dX7_firstFrom_34 : decode cX7_firstFrom 34 = .ok (.land, 1) := by decide +kernel
theorem dX7_firstFrom_35 : decode cX7_firstFrom 35 = .ok (.lstore 5, 2) := by decide +kernel
theorem dX7_firstFrom_37 : decode cX7_firstFrom 37 = .ok (.lload 5, 2) := by decide +kernel
theorem dX7_firstFrom_39 : decode cX7_firstFrom 39 = .ok (.lconst 0, 1) := by decide +kernel
theorem dX7_firstFrom_40 : decode cX7_firstFrom 40 = .ok (.lcmp, 1) := by decide +kernel
theorem dX7_firstFrom_41 : decode cX7_firstFrom 41 = .ok (.ifCond .eq 21, 3) := by decide +kernel
theorem dX7_firstFrom_44 : decode cX7_firstFrom 44 = .ok (.iload 4, 2) := by decide +kernel
theorem dX7_firstFrom_46 : decode cX7_firstFrom 46 = .ok (.bipush 64, 2) := by decide +kernel
theorem dX7_firstFrom_48 : decode cX7_firstFrom 48 = .ok (.imul, 1) := by decide +kernel
theorem dX7_firstFrom_49 : decode cX7_firstFrom 49 = .ok (.lload 5, 2) := by decide +kernel
theorem dX7_firstFrom_51 : decode cX7_firstFrom 51 = .ok (.lload 5, 2) := by decide +kernel
theorem dX7_firstFrom_53 : decode cX7_firstFrom 53 = .ok (.lneg, 1) := by decide +kernel
theorem dX7_firstFrom_54 : decode cX7_firstFrom 54 = .ok (.land, 1) := by decide +kernel
theorem dX7_firstFrom_55 : decode cX7_firstFrom 55 = .ok (.lconst 1, 1) := by decide +kernel
theorem dX7_firstFrom_56 : decode cX7_firstFrom 56 = .ok (.lsub, 1) := by decide +kernel
theorem dX7_firstFrom_57 : decode cX7_firstFrom 57 = .ok (.invokestatic 316, 3) := by decide +kernel
theorem dX7_firstFrom_60 : decode cX7_firstFrom 60 = .ok (.iadd, 1) := by decide +kernel
theorem dX7_firstFrom_61 : decode cX7_firstFrom 61 = .ok (.ireturn, 1) := by decide +kernel
theorem dX7_firstFrom_62 : decode cX7_firstFrom 62 = .ok (.ldc2_w 322, 3) := by decide +kernel
theorem dX7_firstFrom_65 : decode cX7_firstFrom 65 = .ok (.lstore_n 2, 1) := by decide +kernel
theorem dX7_firstFrom_66 : decode cX7_firstFrom 66 = .ok (.iinc 4 1, 3) := by decide +kernel
theorem dX7_firstFrom_69 : decode cX7_firstFrom 69 = .ok (.goto (-47), 3) := by decide +kernel
theorem dX7_firstFrom_72 : decode cX7_firstFrom 72 = .ok (.bipush (-4), 2) := by decide +kernel
theorem dX7_firstFrom_74 : decode cX7_firstFrom 74 = .ok (.ireturn, 1) := by decide +kernel
theorem dX7_lastOf_0 : decode cX7_lastOf 0 = .ok (.aload_n 0, 1) := by decide +kernel
theorem dX7_lastOf_1 : decode cX7_lastOf 1 = .ok (.arraylength, 1) := by decide +kernel
theorem dX7_lastOf_2 : decode cX7_lastOf 2 = .ok (.bipush 64, 2) := by decide +kernel
theorem dX7_lastOf_4 : decode cX7_lastOf 4 = .ok (.imul, 1) := by decide +kernel
theorem dX7_lastOf_5 : decode cX7_lastOf 5 = .ok (.iconst 1, 1) := by decide +kernel
theorem dX7_lastOf_6 : decode cX7_lastOf 6 = .ok (.isub, 1) := by decide +kernel
theorem dX7_lastOf_7 : decode cX7_lastOf 7 = .ok (.istore_n 1, 1) := by decide +kernel
theorem dX7_lastOf_8 : decode cX7_lastOf 8 = .ok (.iload_n 1, 1) := by decide +kernel
theorem dX7_lastOf_9 : decode cX7_lastOf 9 = .ok (.ifCond .lt 19, 3) := by decide +kernel
theorem dX7_lastOf_12 : decode cX7_lastOf 12 = .ok (.aload_n 0, 1) := by decide +kernel
theorem dX7_lastOf_13 : decode cX7_lastOf 13 = .ok (.iload_n 1, 1) := by decide +kernel
theorem dX7_lastOf_14 : decode cX7_lastOf 14 = .ok (.invokestatic 324, 3) := by decide +kernel
theorem dX7_lastOf_17 : decode cX7_lastOf 17 = .ok (.ifCond .eq 5, 3) := by decide +kernel
theorem dX7_lastOf_20 : decode cX7_lastOf 20 = .ok (.iload_n 1, 1) := by decide +kernel
theorem dX7_lastOf_21 : decode cX7_lastOf 21 = .ok (.ireturn, 1) := by decide +kernel
theorem dX7_lastOf_22 : decode cX7_lastOf 22 = .ok (.iinc 1 (-1), 3) := by decide +kernel
theorem dX7_lastOf_25 : decode cX7_lastOf 25 = .ok (.goto (-17), 3) := by decide +kernel
theorem dX7_lastOf_28 : decode cX7_lastOf 28 = .ok (.bipush (-4), 2) := by decide +kernel
theorem dX7_lastOf_30 : decode cX7_lastOf 30 = .ok (.ireturn, 1) := by decide +kernel
theorem dX8_in_0 : decode cX8_in 0 = .ok (.lload_n 0, 1) := by decide +kernel
theorem dX8_in_1 : decode cX8_in 1 = .ok (.lload_n 2, 1) := by decide +kernel
theorem dX8_in_2 : decode cX8_in 2 = .ok (.lcmp, 1) := by decide +kernel
theorem dX8_in_3 : decode cX8_in 3 = .ok (.ifCond .lt 14, 3) := by decide +kernel
theorem dX8_in_6 : decode cX8_in 6 = .ok (.lload_n 0, 1) := by decide +kernel
theorem dX8_in_7 : decode cX8_in 7 = .ok (.lload 4, 2) := by decide +kernel
theorem dX8_in_9 : decode cX8_in 9 = .ok (.lcmp, 1) := by decide +kernel
theorem dX8_in_10 : decode cX8_in 10 = .ok (.ifCond .gt 7, 3) := by decide +kernel
theorem dX8_in_13 : decode cX8_in 13 = .ok (.iconst 1, 1) := by decide +kernel
theorem dX8_in_14 : decode cX8_in 14 = .ok (.goto 4, 3) := by decide +kernel
theorem dX8_in_17 : decode cX8_in 17 = .ok (.iconst 0, 1) := by decide +kernel
theorem dX8_in_18 : decode cX8_in 18 = .ok (.ireturn, 1) := by decide +kernel
theorem dX8_init_0 : decode cX8_init 0 = .ok (.aload_n 0, 1) := by decide +kernel
theorem dX8_init_1 : decode cX8_init 1 = .ok (.invokespecial 1, 3) := by decide +kernel
theorem dX8_init_4 : decode cX8_init 4 = .ok (.aload_n 0, 1) := by decide +kernel
theorem dX8_init_5 : decode cX8_init 5 = .ok (.bipush 96, 2) := by decide +kernel
theorem dX8_init_7 : decode cX8_init 7 = .ok (.newarray .int, 2) := by decide +kernel
theorem dX8_init_9 : decode cX8_init 9 = .ok (.putfield 7, 3) := by decide +kernel
theorem dX8_init_12 : decode cX8_init 12 = .ok (.aload_n 0, 1) := by decide +kernel
theorem dX8_init_13 : decode cX8_init 13 = .ok (.bipush 24, 2) := by decide +kernel
theorem dX8_init_15 : decode cX8_init 15 = .ok (.newarray .int, 2) := by decide +kernel
theorem dX8_init_17 : decode cX8_init 17 = .ok (.putfield 13, 3) := by decide +kernel
theorem dX8_init_20 : decode cX8_init 20 = .ok (.aload_n 0, 1) := by decide +kernel
theorem dX8_init_21 : decode cX8_init 21 = .ok (.iconst 5, 1) := by decide +kernel
theorem dX8_init_22 : decode cX8_init 22 = .ok (.newarray .int, 2) := by decide +kernel
theorem dX8_init_24 : decode cX8_init 24 = .ok (.putfield 16, 3) := by decide +kernel
theorem dX8_init_27 : decode cX8_init 27 = .ok (.aload_n 0, 1) := by decide +kernel
theorem dX8_init_28 : decode cX8_init 28 = .ok (.bipush 18, 2) := by decide +kernel
theorem dX8_init_30 : decode cX8_init 30 = .ok (.newarray .int, 2) := by decide +kernel
theorem dX8_init_32 : decode cX8_init 32 = .ok (.putfield 19, 3) := by decide +kernel
theorem dX8_init_35 : decode cX8_init 35 = .ok (.aload_n 0, 1) := by decide +kernel
theorem dX8_init_36 : decode cX8_init 36 = .ok (.bipush 100, 2) := by decide +kernel
theorem dX8_init_38 : decode cX8_init 38 = .ok (.newarray .int, 2) := by decide +kernel
theorem dX8_init_40 : decode cX8_init 40 = .ok (.putfield 22, 3) := by decide +kernel
theorem dX8_init_43 : decode cX8_init 43 = .ok (.aload_n 0, 1) := by decide +kernel
theorem dX8_init_44 : decode cX8_init 44 = .ok (.bipush 40, 2) := by decide +kernel
theorem dX8_init_46 : decode cX8_init 46 = .ok (.newarray .int, 2) := by decide +kernel
theorem dX8_init_48 : decode cX8_init 48 = .ok (.putfield 25, 3) := by decide +kernel
theorem dX8_init_51 : decode cX8_init 51 = .ok (.aload_n 0, 1) := by decide +kernel
theorem dX8_init_52 : decode cX8_init 52 = .ok (.sipush 16337, 3) := by decide +kernel
theorem dX8_init_55 : decode cX8_init 55 = .ok (.newarray .int, 2) := by decide +kernel
theorem dX8_init_57 : decode cX8_init 57 = .ok (.putfield 28, 3) := by decide +kernel
theorem dX8_init_60 : decode cX8_init 60 = .ok (.aload_n 0, 1) := by decide +kernel
theorem dX8_init_61 : decode cX8_init 61 = .ok (.sipush 16337, 3) := by decide +kernel
theorem dX8_init_64 : decode cX8_init 64 = .ok (.newarray .int, 2) := by decide +kernel
theorem dX8_init_66 : decode cX8_init 66 = .ok (.putfield 31, 3) := by decide +kernel
theorem dX8_init_69 : decode cX8_init 69 = .ok (.aload_n 0, 1) := by decide +kernel
theorem dX8_init_70 : decode cX8_init 70 = .ok (.sipush 1440, 3) := by decide +kernel
theorem dX8_init_73 : decode cX8_init 73 = .ok (.newarray .boolean, 2) := by decide +kernel
theorem dX8_init_75 : decode cX8_init 75 = .ok (.putfield 34, 3) := by decide +kernel
theorem dX8_init_78 : decode cX8_init 78 = .ok (.aload_n 0, 1) := by decide +kernel
theorem dX8_init_79 : decode cX8_init 79 = .ok (.sipush 1440, 3) := by decide +kernel
theorem dX8_init_82 : decode cX8_init 82 = .ok (.newarray .boolean, 2) := by decide +kernel
theorem dX8_init_84 : decode cX8_init 84 = .ok (.putfield 38, 3) := by decide +kernel
theorem dX8_init_87 : decode cX8_init 87 = .ok (.aload_n 0, 1) := by decide +kernel
theorem dX8_init_88 : decode cX8_init 88 = .ok (.bipush 61, 2) := by decide +kernel
theorem dX8_init_90 : decode cX8_init 90 = .ok (.newarray .long, 2) := by decide +kernel
theorem dX8_init_92 : decode cX8_init 92 = .ok (.putfield 41, 3) := by decide +kernel
theorem dX8_init_95 : decode cX8_init 95 = .ok (.aload_n 0, 1) := by decide +kernel
theorem dX8_init_96 : decode cX8_init 96 = .ok (.sipush 8640, 3) := by decide +kernel
theorem dX8_init_99 : decode cX8_init 99 = .ok (.newarray .int, 2) := by decide +kernel
theorem dX8_init_101 : decode cX8_init 101 = .ok (.putfield 45, 3) := by decide +kernel
theorem dX8_init_104 : decode cX8_init 104 = .ok (.aload_n 0, 1) := by decide +kernel
theorem dX8_init_105 : decode cX8_init 105 = .ok (.bipush 6, 2) := by decide +kernel
theorem dX8_init_107 : decode cX8_init 107 = .ok (.newarray .int, 2) := by decide +kernel
theorem dX8_init_109 : decode cX8_init 109 = .ok (.putfield 48, 3) := by decide +kernel
theorem dX8_init_112 : decode cX8_init 112 = .ok (.aload_n 0, 1) := by decide +kernel
theorem dX8_init_113 : decode cX8_init 113 = .ok (.bipush 6, 2) := by decide +kernel
theorem dX8_init_115 : decode cX8_init 115 = .ok (.newarray .int, 2) := by decide +kernel
theorem dX8_init_117 : decode cX8_init 117 = .ok (.putfield 51, 3) := by decide +kernel
theorem dX8_init_120 : decode cX8_init 120 = .ok (.aload_n 0, 1) := by decide +kernel
theorem dX8_init_121 : decode cX8_init 121 = .ok (.sipush 145, 3) := by decide +kernel
theorem dX8_init_124 : decode cX8_init 124 = .ok (.newarray .int, 2) := by decide +kernel
theorem dX8_init_126 : decode cX8_init 126 = .ok (.putfield 54, 3) := by decide +kernel
theorem dX8_init_129 : decode cX8_init 129 = .ok (.aload_n 0, 1) := by decide +kernel
theorem dX8_init_130 : decode cX8_init 130 = .ok (.iconst 4, 1) := by decide +kernel
theorem dX8_init_131 : decode cX8_init 131 = .ok (.newarray .int, 2) := by decide +kernel
theorem dX8_init_133 : decode cX8_init 133 = .ok (.putfield 57, 3) := by decide +kernel
theorem dX8_init_136 : decode cX8_init 136 = .ok (.aload_n 0, 1) := by decide +kernel
theorem dX8_init_137 : decode cX8_init 137 = .ok (.iconst 4, 1) := by decide +kernel
theorem dX8_init_138 : decode cX8_init 138 = .ok (.newarray .int, 2) := by decide +kernel
theorem dX8_init_140 : decode cX8_init 140 = .ok (.putfield 60, 3) := by decide +kernel
theorem dX8_init_143 : decode cX8_init 143 = .ok (.aload_n 0, 1) := by decide +kernel
theorem dX8_init_144 : decode cX8_init 144 = .ok (.bipush 96, 2) := by decide +kernel
theorem dX8_init_146 : decode cX8_init 146 = .ok (.newarray .int, 2) := by decide +kernel
theorem dX8_init_148 : decode cX8_init 148 = .ok (.putfield 63, 3) := by decide +kernel
theorem dX8_init_151 : decode cX8_init 151 = .ok (.aload_n 0, 1) := by decide +kernel
theorem dX8_init_152 : decode cX8_init 152 = .ok (.bipush 24, 2) := by decide +kernel
theorem dX8_init_154 : decode cX8_init 154 = .ok (.newarray .int, 2) := by decide +kernel
theorem dX8_init_156 : decode cX8_init 156 = .ok (.putfield 66, 3) := by decide +kernel
theorem dX8_init_159 : decode cX8_init 159 = .ok (.iconst 0, 1) := by decide +kernel
theorem dX8_init_160 : decode cX8_init 160 = .ok (.istore_n 1, 1) := by decide +kernel
theorem dX8_init_161 : decode cX8_init 161 = .ok (.iload_n 1, 1) := by decide +kernel
theorem dX8_init_162 : decode cX8_init 162 = .ok (.iconst 4, 1) := by decide +kernel
theorem dX8_init_163 : decode cX8_init 163 = .ok (.if_icmp .ge 16, 3) := by decide +kernel
theorem dX8_init_166 : decode cX8_init 166 = .ok (.aload_n 0, 1) := by decide +kernel
theorem dX8_init_167 : decode cX8_init 167 = .ok (.getfield 57, 3) := by decide +kernel
theorem dX8_init_170 : decode cX8_init 170 = .ok (.iload_n 1, 1) := by decide +kernel
theorem dX8_init_171 : decode cX8_init 171 = .ok (.iconst (-1), 1) := by decide +kernel
theorem dX8_init_172 : decode cX8_init 172 = .ok (.iastore, 1) := by decide +kernel
theorem dX8_init_173 : decode cX8_init 173 = .ok (.iinc 1 1, 3) := by decide +kernel
theorem dX8_init_176 : decode cX8_init 176 = .ok (.goto (-15), 3) := by decide +kernel
theorem dX8_init_179 : decode cX8_init 179 = .ok (.aload_n 0, 1) := by decide +kernel
theorem dX8_init_180 : decode cX8_init 180 = .ok (.getfield 16, 3) := by decide +kernel
theorem dX8_init_183 : decode cX8_init 183 = .ok (.iconst 4, 1) := by decide +kernel
theorem dX8_init_184 : decode cX8_init 184 = .ok (.iconst 5, 1) := by decide +kernel
theorem dX8_init_185 : decode cX8_init 185 = .ok (.iastore, 1) := by decide +kernel
theorem dX8_init_186 : decode cX8_init 186 = .ok (.return_, 1) := by decide +kernel
theorem dX8_isMile_0 : decode cX8_isMile 0 = .ok (.iload_n 1, 1) := by decide +kernel
theorem dX8_isMile_1 : decode cX8_isMile 1 = .ok (.i2l, 1) := by decide +kernel
theorem dX8_isMile_2 : decode cX8_isMile 2 = .ok (.lconst 0, 1) := by decide +kernel
theorem dX8_isMile_3 : decode cX8_isMile 3 = .ok (.aload_n 0, 1) := by decide +kernel
theorem dX8_isMile_4 : decode cX8_isMile 4 = .ok (.getfield 69, 3) := by decide +kernel
theorem dX8_isMile_7 : decode cX8_isMile 7 = .ok (.iconst 1, 1) := by decide +kernel
theorem dX8_isMile_8 : decode cX8_isMile 8 = .ok (.isub, 1) := by decide +kernel
theorem dX8_isMile_9 : decode cX8_isMile 9 = .ok (.i2l, 1) := by decide +kernel
theorem dX8_isMile_10 : decode cX8_isMile 10 = .ok (.invokestatic 73, 3) := by decide +kernel
theorem dX8_isMile_13 : decode cX8_isMile 13 = .ok (.ireturn, 1) := by decide +kernel
theorem dX8_isShip_0 : decode cX8_isShip 0 = .ok (.iload_n 1, 1) := by decide +kernel
theorem dX8_isShip_1 : decode cX8_isShip 1 = .ok (.i2l, 1) := by decide +kernel
theorem dX8_isShip_2 : decode cX8_isShip 2 = .ok (.lconst 0, 1) := by decide +kernel
theorem dX8_isShip_3 : decode cX8_isShip 3 = .ok (.aload_n 0, 1) := by decide +kernel
theorem dX8_isShip_4 : decode cX8_isShip 4 = .ok (.getfield 77, 3) := by decide +kernel
theorem dX8_isShip_7 : decode cX8_isShip 7 = .ok (.iconst 1, 1) := by decide +kernel
theorem dX8_isShip_8 : decode cX8_isShip 8 = .ok (.isub, 1) := by decide +kernel
theorem dX8_isShip_9 : decode cX8_isShip 9 = .ok (.i2l, 1) := by decide +kernel
theorem dX8_isShip_10 : decode cX8_isShip 10 = .ok (.invokestatic 73, 3) := by decide +kernel
theorem dX8_isShip_13 : decode cX8_isShip 13 = .ok (.ireturn, 1) := by decide +kernel
theorem dX8_isPace_0 : decode cX8_isPace 0 = .ok (.iload_n 0, 1) := by decide +kernel
theorem dX8_isPace_1 : decode cX8_isPace 1 = .ok (.i2l, 1) := by decide +kernel
theorem dX8_isPace_2 : decode cX8_isPace 2 = .ok (.lconst 1, 1) := by decide +kernel
theorem dX8_isPace_3 : decode cX8_isPace 3 = .ok (.ldc2_w 80, 3) := by decide +kernel
theorem dX8_isPace_6 : decode cX8_isPace 6 = .ok (.invokestatic 73, 3) := by decide +kernel
theorem dX8_isPace_9 : decode cX8_isPace 9 = .ok (.ireturn, 1) := by decide +kernel
theorem dX8_isStart_0 : decode cX8_isStart 0 = .ok (.iload_n 0, 1) := by decide +kernel
theorem dX8_isStart_1 : decode cX8_isStart 1 = .ok (.i2l, 1) := by decide +kernel
theorem dX8_isStart_2 : decode cX8_isStart 2 = .ok (.lconst 0, 1) := by decide +kernel
theorem dX8_isStart_3 : decode cX8_isStart 3 = .ok (.ldc2_w 82, 3) := by decide +kernel
theorem dX8_isStart_6 : decode cX8_isStart 6 = .ok (.invokestatic 73, 3) := by decide +kernel
theorem dX8_isStart_9 : decode cX8_isStart 9 = .ok (.ireturn, 1) := by decide +kernel
theorem dX8_isPart_0 : decode cX8_isPart 0 = .ok (.iload_n 0, 1) := by decide +kernel
theorem dX8_isPart_1 : decode cX8_isPart 1 = .ok (.tableswitch 75 0 3 #[31, 43, 55, 65], 31) := by decide +kernel
theorem dX8_isPart_32 : decode cX8_isPart 32 = .ok (.iload_n 1, 1) := by decide +kernel
theorem dX8_isPart_33 : decode cX8_isPart 33 = .ok (.i2l, 1) := by decide +kernel
theorem dX8_isPart_34 : decode cX8_isPart 34 = .ok (.ldc2_w 84, 3) := by decide +kernel
theorem dX8_isPart_37 : decode cX8_isPart 37 = .ok (.ldc2_w 86, 3) := by decide +kernel
theorem dX8_isPart_40 : decode cX8_isPart 40 = .ok (.invokestatic 73, 3) := by decide +kernel
theorem dX8_isPart_43 : decode cX8_isPart 43 = .ok (.ireturn, 1) := by decide +kernel
theorem dX8_isPart_44 : decode cX8_isPart 44 = .ok (.iload_n 1, 1) := by decide +kernel
theorem dX8_isPart_45 : decode cX8_isPart 45 = .ok (.i2l, 1) := by decide +kernel
theorem dX8_isPart_46 : decode cX8_isPart 46 = .ok (.ldc2_w 88, 3) := by decide +kernel
theorem dX8_isPart_49 : decode cX8_isPart 49 = .ok (.ldc2_w 90, 3) := by decide +kernel
theorem dX8_isPart_52 : decode cX8_isPart 52 = .ok (.invokestatic 73, 3) := by decide +kernel
theorem dX8_isPart_55 : decode cX8_isPart 55 = .ok (.ireturn, 1) := by decide +kernel
theorem dX8_isPart_56 : decode cX8_isPart 56 = .ok (.iload_n 1, 1) := by decide +kernel
theorem dX8_isPart_57 : decode cX8_isPart 57 = .ok (.i2l, 1) := by decide +kernel
theorem dX8_isPart_58 : decode cX8_isPart 58 = .ok (.lconst 0, 1) := by decide +kernel
theorem dX8_isPart_59 : decode cX8_isPart 59 = .ok (.ldc2_w 92, 3) := by decide +kernel
theorem dX8_isPart_62 : decode cX8_isPart 62 = .ok (.invokestatic 73, 3) := by decide +kernel
theorem dX8_isPart_65 : decode cX8_isPart 65 = .ok (.ireturn, 1) := by decide +kernel
theorem dX8_isPart_66 : decode cX8_isPart 66 = .ok (.iload_n 1, 1) := by decide +kernel
theorem dX8_isPart_67 : decode cX8_isPart 67 = .ok (.i2l, 1) := by decide +kernel
theorem dX8_isPart_68 : decode cX8_isPart 68 = .ok (.lconst 0, 1) := by decide +kernel
theorem dX8_isPart_69 : decode cX8_isPart 69 = .ok (.ldc2_w 84, 3) := by decide +kernel
theorem dX8_isPart_72 : decode cX8_isPart 72 = .ok (.invokestatic 73, 3) := by decide +kernel
theorem dX8_isPart_75 : decode cX8_isPart 75 = .ok (.ireturn, 1) := by decide +kernel
theorem dX8_isPart_76 : decode cX8_isPart 76 = .ok (.iload_n 0, 1) := by decide +kernel
theorem dX8_isPart_77 : decode cX8_isPart 77 = .ok (.iconst 4, 1) := by decide +kernel
theorem dX8_isPart_78 : decode cX8_isPart 78 = .ok (.if_icmp .ne 19, 3) := by decide +kernel
theorem dX8_isPart_81 : decode cX8_isPart 81 = .ok (.iload_n 1, 1) := by decide +kernel
theorem dX8_isPart_82 : decode cX8_isPart 82 = .ok (.i2l, 1) := by decide +kernel
theorem dX8_isPart_83 : decode cX8_isPart 83 = .ok (.lconst 0, 1) := by decide +kernel
theorem dX8_isPart_84 : decode cX8_isPart 84 = .ok (.ldc2_w 94, 3) := by decide +kernel
theorem dX8_isPart_87 : decode cX8_isPart 87 = .ok (.invokestatic 73, 3) := by decide +kernel
theorem dX8_isPart_90 : decode cX8_isPart 90 = .ok (.ifCond .eq 7, 3) := by decide +kernel
theorem dX8_isPart_93 : decode cX8_isPart 93 = .ok (.iconst 1, 1) := by decide +kernel
theorem dX8_isPart_94 : decode cX8_isPart 94 = .ok (.goto 4, 3) := by decide +kernel
theorem dX8_isPart_97 : decode cX8_isPart 97 = .ok (.iconst 0, 1) := by decide +kernel
theorem dX8_isPart_98 : decode cX8_isPart 98 = .ok (.ireturn, 1) := by decide +kernel
theorem dX8_mileIs_0 : decode cX8_mileIs 0 = .ok (.aload_n 0, 1) := by decide +kernel
theorem dX8_mileIs_1 : decode cX8_mileIs 1 = .ok (.getfield 7, 3) := by decide +kernel
theorem dX8_mileIs_4 : decode cX8_mileIs 4 = .ok (.bipush 6, 2) := by decide +kernel
theorem dX8_mileIs_6 : decode cX8_mileIs 6 = .ok (.iload_n 1, 1) := by decide +kernel
theorem dX8_mileIs_7 : decode cX8_mileIs 7 = .ok (.imul, 1) := by decide +kernel
theorem dX8_mileIs_8 : decode cX8_mileIs 8 = .ok (.iload_n 2, 1) := by decide +kernel
theorem dX8_mileIs_9 : decode cX8_mileIs 9 = .ok (.iastore, 1) := by decide +kernel
theorem dX8_mileIs_10 : decode cX8_mileIs 10 = .ok (.aload_n 0, 1) := by decide +kernel
theorem dX8_mileIs_11 : decode cX8_mileIs 11 = .ok (.getfield 7, 3) := by decide +kernel
theorem dX8_mileIs_14 : decode cX8_mileIs 14 = .ok (.bipush 6, 2) := by decide +kernel
theorem dX8_mileIs_16 : decode cX8_mileIs 16 = .ok (.iload_n 1, 1) := by decide +kernel
theorem dX8_mileIs_17 : decode cX8_mileIs 17 = .ok (.imul, 1) := by decide +kernel
theorem dX8_mileIs_18 : decode cX8_mileIs 18 = .ok (.iconst 1, 1) := by decide +kernel
theorem dX8_mileIs_19 : decode cX8_mileIs 19 = .ok (.iadd, 1) := by decide +kernel
theorem dX8_mileIs_20 : decode cX8_mileIs 20 = .ok (.iload_n 3, 1) := by decide +kernel
theorem dX8_mileIs_21 : decode cX8_mileIs 21 = .ok (.iastore, 1) := by decide +kernel
theorem dX8_mileIs_22 : decode cX8_mileIs 22 = .ok (.aload_n 0, 1) := by decide +kernel
theorem dX8_mileIs_23 : decode cX8_mileIs 23 = .ok (.getfield 7, 3) := by decide +kernel
theorem dX8_mileIs_26 : decode cX8_mileIs 26 = .ok (.bipush 6, 2) := by decide +kernel
theorem dX8_mileIs_28 : decode cX8_mileIs 28 = .ok (.iload_n 1, 1) := by decide +kernel
theorem dX8_mileIs_29 : decode cX8_mileIs 29 = .ok (.imul, 1) := by decide +kernel
theorem dX8_mileIs_30 : decode cX8_mileIs 30 = .ok (.iconst 2, 1) := by decide +kernel
theorem dX8_mileIs_31 : decode cX8_mileIs 31 = .ok (.iadd, 1) := by decide +kernel
theorem dX8_mileIs_32 : decode cX8_mileIs 32 = .ok (.iload 4, 2) := by decide +kernel
theorem dX8_mileIs_34 : decode cX8_mileIs 34 = .ok (.iastore, 1) := by decide +kernel
theorem dX8_mileIs_35 : decode cX8_mileIs 35 = .ok (.aload_n 0, 1) := by decide +kernel
theorem dX8_mileIs_36 : decode cX8_mileIs 36 = .ok (.getfield 7, 3) := by decide +kernel
theorem dX8_mileIs_39 : decode cX8_mileIs 39 = .ok (.bipush 6, 2) := by decide +kernel
theorem dX8_mileIs_41 : decode cX8_mileIs 41 = .ok (.iload_n 1, 1) := by decide +kernel
theorem dX8_mileIs_42 : decode cX8_mileIs 42 = .ok (.imul, 1) := by decide +kernel
theorem dX8_mileIs_43 : decode cX8_mileIs 43 = .ok (.iconst 3, 1) := by decide +kernel
theorem dX8_mileIs_44 : decode cX8_mileIs 44 = .ok (.iadd, 1) := by decide +kernel
theorem dX8_mileIs_45 : decode cX8_mileIs 45 = .ok (.iload 5, 2) := by decide +kernel
theorem dX8_mileIs_47 : decode cX8_mileIs 47 = .ok (.iastore, 1) := by decide +kernel
theorem dX8_mileIs_48 : decode cX8_mileIs 48 = .ok (.aload_n 0, 1) := by decide +kernel
theorem dX8_mileIs_49 : decode cX8_mileIs 49 = .ok (.getfield 7, 3) := by decide +kernel
theorem dX8_mileIs_52 : decode cX8_mileIs 52 = .ok (.bipush 6, 2) := by decide +kernel
theorem dX8_mileIs_54 : decode cX8_mileIs 54 = .ok (.iload_n 1, 1) := by decide +kernel
theorem dX8_mileIs_55 : decode cX8_mileIs 55 = .ok (.imul, 1) := by decide +kernel
theorem dX8_mileIs_56 : decode cX8_mileIs 56 = .ok (.iconst 4, 1) := by decide +kernel
theorem dX8_mileIs_57 : decode cX8_mileIs 57 = .ok (.iadd, 1) := by decide +kernel
theorem dX8_mileIs_58 : decode cX8_mileIs 58 = .ok (.iload 6, 2) := by decide +kernel
theorem dX8_mileIs_60 : decode cX8_mileIs 60 = .ok (.iastore, 1) := by decide +kernel
theorem dX8_mileIs_61 : decode cX8_mileIs 61 = .ok (.aload_n 0, 1) := by decide +kernel
theorem dX8_mileIs_62 : decode cX8_mileIs 62 = .ok (.getfield 7, 3) := by decide +kernel
theorem dX8_mileIs_65 : decode cX8_mileIs 65 = .ok (.bipush 6, 2) := by decide +kernel
theorem dX8_mileIs_67 : decode cX8_mileIs 67 = .ok (.iload_n 1, 1) := by decide +kernel
theorem dX8_mileIs_68 : decode cX8_mileIs 68 = .ok (.imul, 1) := by decide +kernel
theorem dX8_mileIs_69 : decode cX8_mileIs 69 = .ok (.iconst 5, 1) := by decide +kernel
theorem dX8_mileIs_70 : decode cX8_mileIs 70 = .ok (.iadd, 1) := by decide +kernel
theorem dX8_mileIs_71 : decode cX8_mileIs 71 = .ok (.bipush 8, 2) := by decide +kernel
theorem dX8_mileIs_73 : decode cX8_mileIs 73 = .ok (.iastore, 1) := by decide +kernel
theorem dX8_mileIs_74 : decode cX8_mileIs 74 = .ok (.return_, 1) := by decide +kernel
theorem dX8_mile_0 : decode cX8_mile 0 = .ok (.iconst 0, 1) := by decide +kernel
theorem dX8_mile_1 : decode cX8_mile 1 = .ok (.iload_n 1, 1) := by decide +kernel
theorem dX8_mile_2 : decode cX8_mile 2 = .ok (.invokestatic 96, 3) := by decide +kernel
theorem dX8_mile_5 : decode cX8_mile 5 = .ok (.ifCond .eq 11, 3) := by decide +kernel
theorem dX8_mile_8 : decode cX8_mile 8 = .ok (.iconst 1, 1) := by decide +kernel
theorem dX8_mile_9 : decode cX8_mile 9 = .ok (.iload_n 2, 1) := by decide +kernel
theorem dX8_mile_10 : decode cX8_mile 10 = .ok (.invokestatic 96, 3) := by decide +kernel
theorem dX8_mile_13 : decode cX8_mile 13 = .ok (.ifCond .ne 5, 3) := by decide +kernel
theorem dX8_mile_16 : decode cX8_mile 16 = .ok (.iconst (-1), 1) := by decide +kernel
theorem dX8_mile_17 : decode cX8_mile 17 = .ok (.ireturn, 1) := by decide +kernel
theorem dX8_mile_18 : decode cX8_mile 18 = .ok (.aload_n 0, 1) := by decide +kernel
theorem dX8_mile_19 : decode cX8_mile 19 = .ok (.getfield 69, 3) := by decide +kernel
theorem dX8_mile_22 : decode cX8_mile 22 = .ok (.bipush 16, 2) := by decide +kernel
theorem dX8_mile_24 : decode cX8_mile 24 = .ok (.if_icmp .ne 6, 3) := by decide +kernel
theorem dX8_mile_27 : decode cX8_mile 27 = .ok (.bipush (-3), 2) := by decide +kernel
theorem dX8_mile_29 : decode cX8_mile 29 = .ok (.ireturn, 1) := by decide +kernel
theorem dX8_mile_30 : decode cX8_mile 30 = .ok (.aload_n 0, 1) := by decide +kernel
theorem dX8_mile_31 : decode cX8_mile 31 = .ok (.aload_n 0, 1) := by decide +kernel
theorem dX8_mile_32 : decode cX8_mile 32 = .ok (.getfield 69, 3) := by decide +kernel
theorem dX8_mile_35 : decode cX8_mile 35 = .ok (.iload_n 1, 1) := by decide +kernel
theorem dX8_mile_36 : decode cX8_mile 36 = .ok (.iload_n 2, 1) := by decide +kernel
theorem dX8_mile_37 : decode cX8_mile 37 = .ok (.bipush 9, 2) := by decide +kernel
theorem dX8_mile_39 : decode cX8_mile 39 = .ok (.iconst 0, 1) := by decide +kernel
theorem dX8_mile_40 : decode cX8_mile 40 = .ok (.iconst 0, 1) := by decide +kernel
theorem dX8_mile_41 : decode cX8_mile 41 = .ok (.invokevirtual 100, 3) := by decide +kernel
theorem dX8_mile_44 : decode cX8_mile 44 = .ok (.aload_n 0, 1) := by decide +kernel
theorem dX8_mile_45 : decode cX8_mile 45 = .ok (.dup, 1) := by decide +kernel
theorem dX8_mile_46 : decode cX8_mile 46 = .ok (.getfield 69, 3) := by decide +kernel
theorem dX8_mile_49 : decode cX8_mile 49 = .ok (.iconst 1, 1) := by decide +kernel
theorem dX8_mile_50 : decode cX8_mile 50 = .ok (.iadd, 1) := by decide +kernel
theorem dX8_mile_51 : decode cX8_mile 51 = .ok (.putfield 69, 3) := by decide +kernel
theorem dX8_mile_54 : decode cX8_mile 54 = .ok (.aload_n 0, 1) := by decide +kernel
theorem dX8_mile_55 : decode cX8_mile 55 = .ok (.getfield 69, 3) := by decide +kernel
theorem dX8_mile_58 : decode cX8_mile 58 = .ok (.iconst 1, 1) := by decide +kernel
theorem dX8_mile_59 : decode cX8_mile 59 = .ok (.isub, 1) := by decide +kernel
theorem dX8_mile_60 : decode cX8_mile 60 = .ok (.ireturn, 1) := by decide +kernel
theorem dX8_make_0 : decode cX8_make 0 = .ok (.aload_n 0, 1) := by decide +kernel
theorem dX8_make_1 : decode cX8_make 1 = .ok (.iload_n 1, 1) := by decide +kernel
theorem dX8_make_2 : decode cX8_make 2 = .ok (.invokevirtual 104, 3) := by decide +kernel
theorem dX8_make_5 : decode cX8_make 5 = .ok (.ifCond .eq 11, 3) := by decide +kernel
theorem dX8_make_8 : decode cX8_make 8 = .ok (.iload_n 2, 1) := by decide +kernel
theorem dX8_make_9 : decode cX8_make 9 = .ok (.iload_n 3, 1) := by decide +kernel
theorem dX8_make_10 : decode cX8_make 10 = .ok (.invokestatic 96, 3) := by decide +kernel
theorem dX8_make_13 : decode cX8_make 13 = .ok (.ifCond .ne 5, 3) := by decide +kernel
theorem dX8_make_16 : decode cX8_make 16 = .ok (.iconst (-1), 1) := by decide +kernel
theorem dX8_make_17 : decode cX8_make 17 = .ok (.ireturn, 1) := by decide +kernel
theorem dX8_make_18 : decode cX8_make 18 = .ok (.aload_n 0, 1) := by decide +kernel
theorem dX8_make_19 : decode cX8_make 19 = .ok (.getfield 7, 3) := by decide +kernel
theorem dX8_make_22 : decode cX8_make 22 = .ok (.bipush 6, 2) := by decide +kernel
theorem dX8_make_24 : decode cX8_make 24 = .ok (.iload_n 1, 1) := by decide +kernel
theorem dX8_make_25 : decode cX8_make 25 = .ok (.imul, 1) := by decide +kernel
theorem dX8_make_26 : decode cX8_make 26 = .ok (.iload_n 2, 1) := by decide +kernel
theorem dX8_make_27 : decode cX8_make 27 = .ok (.iadd, 1) := by decide +kernel
theorem dX8_make_28 : decode cX8_make 28 = .ok (.iaload, 1) := by decide +kernel
theorem dX8_make_29 : decode cX8_make 29 = .ok (.istore 4, 2) := by decide +kernel
theorem dX8_make_31 : decode cX8_make 31 = .ok (.aload_n 0, 1) := by decide +kernel
theorem dX8_make_32 : decode cX8_make 32 = .ok (.getfield 7, 3) := by decide +kernel
theorem dX8_make_35 : decode cX8_make 35 = .ok (.bipush 6, 2) := by decide +kernel
theorem dX8_make_37 : decode cX8_make 37 = .ok (.iload_n 1, 1) := by decide +kernel
theorem dX8_make_38 : decode cX8_make 38 = .ok (.imul, 1) := by decide +kernel
theorem dX8_make_39 : decode cX8_make 39 = .ok (.iload_n 2, 1) := by decide +kernel
theorem dX8_make_40 : decode cX8_make 40 = .ok (.iadd, 1) := by decide +kernel
theorem dX8_make_41 : decode cX8_make 41 = .ok (.iload_n 3, 1) := by decide +kernel
theorem dX8_make_42 : decode cX8_make 42 = .ok (.iastore, 1) := by decide +kernel
theorem dX8_make_43 : decode cX8_make 43 = .ok (.iload 4, 2) := by decide +kernel
theorem dX8_make_45 : decode cX8_make 45 = .ok (.ireturn, 1) := by decide +kernel
theorem dX8_told_0 : decode cX8_told 0 = .ok (.aload_n 0, 1) := by decide +kernel
theorem dX8_told_1 : decode cX8_told 1 = .ok (.iload_n 1, 1) := by decide +kernel
theorem dX8_told_2 : decode cX8_told 2 = .ok (.invokevirtual 104, 3) := by decide +kernel
theorem dX8_told_5 : decode cX8_told 5 = .ok (.ifCond .eq 29, 3) := by decide +kernel
theorem dX8_told_8 : decode cX8_told 8 = .ok (.iload_n 2, 1) := by decide +kernel
theorem dX8_told_9 : decode cX8_told 9 = .ok (.i2l, 1) := by decide +kernel
theorem dX8_told_10 : decode cX8_told 10 = .ok (.lconst 0, 1) := by decide +kernel
theorem dX8_told_11 : decode cX8_told 11 = .ok (.ldc2_w 108, 3) := by decide +kernel
theorem dX8_told_14 : decode cX8_told 14 = .ok (.invokestatic 73, 3) := by decide +kernel
theorem dX8_told_17 : decode cX8_told 17 = .ok (.ifCond .eq 17, 3) := by decide +kernel
theorem dX8_told_20 : decode cX8_told 20 = .ok (.aload_n 0, 1) := by decide +kernel
theorem dX8_told_21 : decode cX8_told 21 = .ok (.getfield 7, 3) := by decide +kernel
theorem dX8_told_24 : decode cX8_told 24 = .ok (.bipush 6, 2) := by decide +kernel
theorem dX8_told_26 : decode cX8_told 26 = .ok (.iload_n 1, 1) := by decide +kernel
theorem dX8_told_27 : decode cX8_told 27 = .ok (.imul, 1) := by decide +kernel
theorem dX8_told_28 : decode cX8_told 28 = .ok (.iload_n 2, 1) := by decide +kernel
theorem dX8_told_29 : decode cX8_told 29 = .ok (.iadd, 1) := by decide +kernel
theorem dX8_told_30 : decode cX8_told 30 = .ok (.iaload, 1) := by decide +kernel
theorem dX8_told_31 : decode cX8_told 31 = .ok (.goto 4, 3) := by decide +kernel
theorem dX8_told_34 : decode cX8_told 34 = .ok (.iconst (-1), 1) := by decide +kernel
theorem dX8_told_35 : decode cX8_told 35 = .ok (.ireturn, 1) := by decide +kernel
theorem dX8_height_0 : decode cX8_height 0 = .ok (.iload_n 1, 1) := by decide +kernel
theorem dX8_height_1 : decode cX8_height 1 = .ok (.i2l, 1) := by decide +kernel
theorem dX8_height_2 : decode cX8_height 2 = .ok (.lconst 0, 1) := by decide +kernel
theorem dX8_height_3 : decode cX8_height 3 = .ok (.ldc2_w 110, 3) := by decide +kernel
theorem dX8_height_6 : decode cX8_height 6 = .ok (.invokestatic 73, 3) := by decide +kernel
theorem dX8_height_9 : decode cX8_height 9 = .ok (.ifCond .eq 15, 3) := by decide +kernel
theorem dX8_height_12 : decode cX8_height 12 = .ok (.iload_n 2, 1) := by decide +kernel
theorem dX8_height_13 : decode cX8_height 13 = .ok (.i2l, 1) := by decide +kernel
theorem dX8_height_14 : decode cX8_height 14 = .ok (.lconst 0, 1) := by decide +kernel
theorem dX8_height_15 : decode cX8_height 15 = .ok (.ldc2_w 90, 3) := by decide +kernel
theorem dX8_height_18 : decode cX8_height 18 = .ok (.invokestatic 73, 3) := by decide +kernel
theorem dX8_height_21 : decode cX8_height 21 = .ok (.ifCond .ne 5, 3) := by decide +kernel
theorem dX8_height_24 : decode cX8_height 24 = .ok (.iconst (-1), 1) := by decide +kernel
theorem dX8_height_25 : decode cX8_height 25 = .ok (.ireturn, 1) := by decide +kernel
theorem dX8_height_26 : decode cX8_height 26 = .ok (.aload_n 0, 1) := by decide +kernel
theorem dX8_height_27 : decode cX8_height 27 = .ok (.getfield 13, 3) := by decide +kernel
theorem dX8_height_30 : decode cX8_height 30 = .ok (.iload_n 1, 1) := by decide +kernel
theorem dX8_height_31 : decode cX8_height 31 = .ok (.iaload, 1) := by decide +kernel
theorem dX8_height_32 : decode cX8_height 32 = .ok (.istore_n 3, 1) := by decide +kernel
theorem dX8_height_33 : decode cX8_height 33 = .ok (.aload_n 0, 1) := by decide +kernel
theorem dX8_height_34 : decode cX8_height 34 = .ok (.getfield 13, 3) := by decide +kernel
theorem dX8_height_37 : decode cX8_height 37 = .ok (.iload_n 1, 1) := by decide +kernel
theorem dX8_height_38 : decode cX8_height 38 = .ok (.iload_n 2, 1) := by decide +kernel
theorem dX8_height_39 : decode cX8_height 39 = .ok (.iastore, 1) := by decide +kernel
theorem dX8_height_40 : decode cX8_height 40 = .ok (.iload_n 3, 1) := by decide +kernel
theorem dX8_height_41 : decode cX8_height 41 = .ok (.ireturn, 1) := by decide +kernel
theorem dX8_isSet_0 : decode cX8_isSet 0 = .ok (.iload_n 0, 1) := by decide +kernel
theorem dX8_isSet_1 : decode cX8_isSet 1 = .ok (.tableswitch 69 0 3 #[31, 41, 51, 61], 31) := by decide +kernel
theorem dX8_isSet_32 : decode cX8_isSet 32 = .ok (.iload_n 1, 1) := by decide +kernel
theorem dX8_isSet_33 : decode cX8_isSet 33 = .ok (.i2l, 1) := by decide +kernel
theorem dX8_isSet_34 : decode cX8_isSet 34 = .ok (.lconst 0, 1) := by decide +kernel
theorem dX8_isSet_35 : decode cX8_isSet 35 = .ok (.ldc2_w 112, 3) := by decide +kernel
theorem dX8_isSet_38 : decode cX8_isSet 38 = .ok (.invokestatic 73, 3) := by decide +kernel
theorem dX8_isSet_41 : decode cX8_isSet 41 = .ok (.ireturn, 1) := by decide +kernel
theorem dX8_isSet_42 : decode cX8_isSet 42 = .ok (.iload_n 1, 1) := by decide +kernel
theorem dX8_isSet_43 : decode cX8_isSet 43 = .ok (.i2l, 1) := by decide +kernel
theorem dX8_isSet_44 : decode cX8_isSet 44 = .ok (.lconst 0, 1) := by decide +kernel
theorem dX8_isSet_45 : decode cX8_isSet 45 = .ok (.ldc2_w 92, 3) := by decide +kernel
theorem dX8_isSet_48 : decode cX8_isSet 48 = .ok (.invokestatic 73, 3) := by decide +kernel
theorem dX8_isSet_51 : decode cX8_isSet 51 = .ok (.ireturn, 1) := by decide +kernel
theorem dX8_isSet_52 : decode cX8_isSet 52 = .ok (.iload_n 1, 1) := by decide +kernel
theorem dX8_isSet_53 : decode cX8_isSet 53 = .ok (.i2l, 1) := by decide +kernel
theorem dX8_isSet_54 : decode cX8_isSet 54 = .ok (.lconst 0, 1) := by decide +kernel
theorem dX8_isSet_55 : decode cX8_isSet 55 = .ok (.ldc2_w 88, 3) := by decide +kernel
theorem dX8_isSet_58 : decode cX8_isSet 58 = .ok (.invokestatic 73, 3) := by decide +kernel
theorem dX8_isSet_61 : decode cX8_isSet 61 = .ok (.ireturn, 1) := by decide +kernel
theorem dX8_isSet_62 : decode cX8_isSet 62 = .ok (.iload_n 1, 1) := by decide +kernel
theorem dX8_isSet_63 : decode cX8_isSet 63 = .ok (.i2l, 1) := by decide +kernel
theorem dX8_isSet_64 : decode cX8_isSet 64 = .ok (.lconst 0, 1) := by decide +kernel
theorem dX8_isSet_65 : decode cX8_isSet 65 = .ok (.lconst 1, 1) := by decide +kernel
theorem dX8_isSet_66 : decode cX8_isSet 66 = .ok (.invokestatic 73, 3) := by decide +kernel
theorem dX8_isSet_69 : decode cX8_isSet 69 = .ok (.ireturn, 1) := by decide +kernel
theorem dX8_isSet_70 : decode cX8_isSet 70 = .ok (.iload_n 0, 1) := by decide +kernel
theorem dX8_isSet_71 : decode cX8_isSet 71 = .ok (.iconst 4, 1) := by decide +kernel
theorem dX8_isSet_72 : decode cX8_isSet 72 = .ok (.if_icmp .ne 19, 3) := by decide +kernel
theorem dX8_isSet_75 : decode cX8_isSet 75 = .ok (.iload_n 1, 1) := by decide +kernel
theorem dX8_isSet_76 : decode cX8_isSet 76 = .ok (.i2l, 1) := by decide +kernel
theorem dX8_isSet_77 : decode cX8_isSet 77 = .ok (.lconst 0, 1) := by decide +kernel
theorem dX8_isSet_78 : decode cX8_isSet 78 = .ok (.ldc2_w 90, 3) := by decide +kernel
theorem dX8_isSet_81 : decode cX8_isSet 81 = .ok (.invokestatic 73, 3) := by decide +kernel
theorem dX8_isSet_84 : decode cX8_isSet 84 = .ok (.ifCond .eq 7, 3) := by decide +kernel
theorem dX8_isSet_87 : decode cX8_isSet 87 = .ok (.iconst 1, 1) := by decide +kernel
theorem dX8_isSet_88 : decode cX8_isSet 88 = .ok (.goto 4, 3) := by decide +kernel
theorem dX8_isSet_91 : decode cX8_isSet 91 = .ok (.iconst 0, 1) := by decide +kernel
theorem dX8_isSet_92 : decode cX8_isSet 92 = .ok (.ireturn, 1) := by decide +kernel
theorem dX8_set_0 : decode cX8_set 0 = .ok (.iload_n 1, 1) := by decide +kernel
theorem dX8_set_1 : decode cX8_set 1 = .ok (.iload_n 2, 1) := by decide +kernel
theorem dX8_set_2 : decode cX8_set 2 = .ok (.invokestatic 114, 3) := by decide +kernel
theorem dX8_set_5 : decode cX8_set 5 = .ok (.ifCond .ne 5, 3) := by decide +kernel
theorem dX8_set_8 : decode cX8_set 8 = .ok (.iconst (-1), 1) := by decide +kernel
theorem dX8_set_9 : decode cX8_set 9 = .ok (.ireturn, 1) := by decide +kernel
theorem dX8_set_10 : decode cX8_set 10 = .ok (.aload_n 0, 1) := by decide +kernel
theorem dX8_set_11 : decode cX8_set 11 = .ok (.getfield 16, 3) := by decide +kernel
theorem dX8_set_14 : decode cX8_set 14 = .ok (.iload_n 1, 1) := by decide +kernel
theorem dX8_set_15 : decode cX8_set 15 = .ok (.iaload, 1) := by decide +kernel
theorem dX8_set_16 : decode cX8_set 16 = .ok (.istore_n 3, 1) := by decide +kernel
theorem dX8_set_17 : decode cX8_set 17 = .ok (.aload_n 0, 1) := by decide +kernel
theorem dX8_set_18 : decode cX8_set 18 = .ok (.getfield 16, 3) := by decide +kernel
theorem dX8_set_21 : decode cX8_set 21 = .ok (.iload_n 1, 1) := by decide +kernel
theorem dX8_set_22 : decode cX8_set 22 = .ok (.iload_n 2, 1) := by decide +kernel
theorem dX8_set_23 : decode cX8_set 23 = .ok (.iastore, 1) := by decide +kernel
theorem dX8_set_24 : decode cX8_set 24 = .ok (.iload_n 3, 1) := by decide +kernel
theorem dX8_set_25 : decode cX8_set 25 = .ok (.ireturn, 1) := by decide +kernel
theorem dX8_ship_0 : decode cX8_ship 0 = .ok (.iload_n 1, 1) := by decide +kernel
theorem dX8_ship_1 : decode cX8_ship 1 = .ok (.i2l, 1) := by decide +kernel
theorem dX8_ship_2 : decode cX8_ship 2 = .ok (.ldc2_w 84, 3) := by decide +kernel
theorem dX8_ship_5 : decode cX8_ship 5 = .ok (.ldc2_w 117, 3) := by decide +kernel
theorem dX8_ship_8 : decode cX8_ship 8 = .ok (.invokestatic 73, 3) := by decide +kernel
theorem dX8_ship_11 : decode cX8_ship 11 = .ok (.ifCond .eq 27, 3) := by decide +kernel
theorem dX8_ship_14 : decode cX8_ship 14 = .ok (.iload_n 2, 1) := by decide +kernel
theorem dX8_ship_15 : decode cX8_ship 15 = .ok (.i2l, 1) := by decide +kernel
theorem dX8_ship_16 : decode cX8_ship 16 = .ok (.lconst 1, 1) := by decide +kernel
theorem dX8_ship_17 : decode cX8_ship 17 = .ok (.ldc2_w 94, 3) := by decide +kernel
theorem dX8_ship_20 : decode cX8_ship 20 = .ok (.invokestatic 73, 3) := by decide +kernel
theorem dX8_ship_23 : decode cX8_ship 23 = .ok (.ifCond .eq 15, 3) := by decide +kernel
theorem dX8_ship_26 : decode cX8_ship 26 = .ok (.iload_n 3, 1) := by decide +kernel
theorem dX8_ship_27 : decode cX8_ship 27 = .ok (.i2l, 1) := by decide +kernel
theorem dX8_ship_28 : decode cX8_ship 28 = .ok (.lconst 1, 1) := by decide +kernel
theorem dX8_ship_29 : decode cX8_ship 29 = .ok (.ldc2_w 90, 3) := by decide +kernel
theorem dX8_ship_32 : decode cX8_ship 32 = .ok (.invokestatic 73, 3) := by decide +kernel
theorem dX8_ship_35 : decode cX8_ship 35 = .ok (.ifCond .ne 5, 3) := by decide +kernel
theorem dX8_ship_38 : decode cX8_ship 38 = .ok (.iconst (-1), 1) := by decide +kernel
theorem dX8_ship_39 : decode cX8_ship 39 = .ok (.ireturn, 1) := by decide +kernel
theorem dX8_ship_40 : decode cX8_ship 40 = .ok (.aload_n 0, 1) := by decide +kernel
theorem dX8_ship_41 : decode cX8_ship 41 = .ok (.getfield 77, 3) := by decide +kernel
theorem dX8_ship_44 : decode cX8_ship 44 = .ok (.bipush 6, 2) := by decide +kernel
theorem dX8_ship_46 : decode cX8_ship 46 = .ok (.if_icmp .ne 6, 3) := by decide +kernel
theorem dX8_ship_49 : decode cX8_ship 49 = .ok (.bipush (-3), 2) := by decide +kernel
theorem dX8_ship_51 : decode cX8_ship 51 = .ok (.ireturn, 1) := by decide +kernel
theorem dX8_ship_52 : decode cX8_ship 52 = .ok (.aload_n 0, 1) := by decide +kernel
theorem dX8_ship_53 : decode cX8_ship 53 = .ok (.getfield 19, 3) := by decide +kernel
theorem dX8_ship_56 : decode cX8_ship 56 = .ok (.iconst 3, 1) := by decide +kernel
theorem dX8_ship_57 : decode cX8_ship 57 = .ok (.aload_n 0, 1) := by decide +kernel
theorem dX8_ship_58 : decode cX8_ship 58 = .ok (.getfield 77, 3) := by decide +kernel
theorem dX8_ship_61 : decode cX8_ship 61 = .ok (.imul, 1) := by decide +kernel
theorem dX8_ship_62 : decode cX8_ship 62 = .ok (.iload_n 1, 1) := by decide +kernel
theorem dX8_ship_63 : decode cX8_ship 63 = .ok (.iastore, 1) := by decide +kernel
theorem dX8_ship_64 : decode cX8_ship 64 = .ok (.aload_n 0, 1) := by decide +kernel
theorem dX8_ship_65 : decode cX8_ship 65 = .ok (.getfield 19, 3) := by decide +kernel
theorem dX8_ship_68 : decode cX8_ship 68 = .ok (.iconst 3, 1) := by decide +kernel
theorem dX8_ship_69 : decode cX8_ship 69 = .ok (.aload_n 0, 1) := by decide +kernel
theorem dX8_ship_70 : decode cX8_ship 70 = .ok (.getfield 77, 3) := by decide +kernel
theorem dX8_ship_73 : decode cX8_ship 73 = .ok (.imul, 1) := by decide +kernel
theorem dX8_ship_74 : decode cX8_ship 74 = .ok (.iconst 1, 1) := by decide +kernel
theorem dX8_ship_75 : decode cX8_ship 75 = .ok (.iadd, 1) := by decide +kernel
theorem dX8_ship_76 : decode cX8_ship 76 = .ok (.iload_n 2, 1) := by decide +kernel
theorem dX8_ship_77 : decode cX8_ship 77 = .ok (.iastore, 1) := by decide +kernel
theorem dX8_ship_78 : decode cX8_ship 78 = .ok (.aload_n 0, 1) := by decide +kernel
theorem dX8_ship_79 : decode cX8_ship 79 = .ok (.getfield 19, 3) := by decide +kernel
theorem dX8_ship_82 : decode cX8_ship 82 = .ok (.iconst 3, 1) := by decide +kernel
theorem dX8_ship_83 : decode cX8_ship 83 = .ok (.aload_n 0, 1) := by decide +kernel
theorem dX8_ship_84 : decode cX8_ship 84 = .ok (.getfield 77, 3) := by decide +kernel
theorem dX8_ship_87 : decode cX8_ship 87 = .ok (.imul, 1) := by decide +kernel
theorem dX8_ship_88 : decode cX8_ship 88 = .ok (.iconst 2, 1) := by decide +kernel
theorem dX8_ship_89 : decode cX8_ship 89 = .ok (.iadd, 1) := by decide +kernel
theorem dX8_ship_90 : decode cX8_ship 90 = .ok (.iload_n 3, 1) := by decide +kernel
theorem dX8_ship_91 : decode cX8_ship 91 = .ok (.iastore, 1) := by decide +kernel
theorem dX8_ship_92 : decode cX8_ship 92 = .ok (.aload_n 0, 1) := by decide +kernel
theorem dX8_ship_93 : decode cX8_ship 93 = .ok (.dup, 1) := by decide +kernel
theorem dX8_ship_94 : decode cX8_ship 94 = .ok (.getfield 77, 3) := by decide +kernel
theorem dX8_ship_97 : decode cX8_ship 97 = .ok (.iconst 1, 1) := by decide +kernel
theorem dX8_ship_98 : decode cX8_ship 98 = .ok (.iadd, 1) := by decide +kernel
theorem dX8_ship_99 : decode cX8_ship 99 = .ok (.putfield 77, 3) := by decide +kernel
theorem dX8_ship_102 : decode cX8_ship 102 = .ok (.aload_n 0, 1) := by decide +kernel
theorem dX8_ship_103 : decode cX8_ship 103 = .ok (.getfield 77, 3) := by decide +kernel
theorem dX8_ship_106 : decode cX8_ship 106 = .ok (.iconst 1, 1) := by decide +kernel
theorem dX8_ship_107 : decode cX8_ship 107 = .ok (.isub, 1) := by decide +kernel
theorem dX8_ship_108 : decode cX8_ship 108 = .ok (.ireturn, 1) := by decide +kernel
theorem dX8_pace_0 : decode cX8_pace 0 = .ok (.aload_n 0, 1) := by decide +kernel
theorem dX8_pace_1 : decode cX8_pace 1 = .ok (.iload_n 1, 1) := by decide +kernel
theorem dX8_pace_2 : decode cX8_pace 2 = .ok (.invokevirtual 104, 3) := by decide +kernel
theorem dX8_pace_5 : decode cX8_pace 5 = .ok (.ifCond .eq 10, 3) := by decide +kernel
theorem dX8_pace_8 : decode cX8_pace 8 = .ok (.iload_n 2, 1) := by decide +kernel
theorem dX8_pace_9 : decode cX8_pace 9 = .ok (.invokestatic 119, 3) := by decide +kernel
theorem dX8_pace_12 : decode cX8_pace 12 = .ok (.ifCond .ne 5, 3) := by decide +kernel
theorem dX8_pace_15 : decode cX8_pace 15 = .ok (.iconst (-1), 1) := by decide +kernel
theorem dX8_pace_16 : decode cX8_pace 16 = .ok (.ireturn, 1) := by decide +kernel
theorem dX8_pace_17 : decode cX8_pace 17 = .ok (.aload_n 0, 1) := by decide +kernel
theorem dX8_pace_18 : decode cX8_pace 18 = .ok (.getfield 7, 3) := by decide +kernel
theorem dX8_pace_21 : decode cX8_pace 21 = .ok (.bipush 6, 2) := by decide +kernel
theorem dX8_pace_23 : decode cX8_pace 23 = .ok (.iload_n 1, 1) := by decide +kernel
theorem dX8_pace_24 : decode cX8_pace 24 = .ok (.imul, 1) := by decide +kernel
theorem dX8_pace_25 : decode cX8_pace 25 = .ok (.iconst 5, 1) := by decide +kernel
theorem dX8_pace_26 : decode cX8_pace 26 = .ok (.iadd, 1) := by decide +kernel
theorem dX8_pace_27 : decode cX8_pace 27 = .ok (.iaload, 1) := by decide +kernel
theorem dX8_pace_28 : decode cX8_pace 28 = .ok (.istore_n 3, 1) := by decide +kernel
theorem dX8_pace_29 : decode cX8_pace 29 = .ok (.aload_n 0, 1) := by decide +kernel
theorem dX8_pace_30 : decode cX8_pace 30 = .ok (.getfield 7, 3) := by decide +kernel
theorem dX8_pace_33 : decode cX8_pace 33 = .ok (.bipush 6, 2) := by decide +kernel
theorem dX8_pace_35 : decode cX8_pace 35 = .ok (.iload_n 1, 1) := by decide +kernel
theorem dX8_pace_36 : decode cX8_pace 36 = .ok (.imul, 1) := by decide +kernel
theorem dX8_pace_37 : decode cX8_pace 37 = .ok (.iconst 5, 1) := by decide +kernel
theorem dX8_pace_38 : decode cX8_pace 38 = .ok (.iadd, 1) := by decide +kernel
theorem dX8_pace_39 : decode cX8_pace 39 = .ok (.iload_n 2, 1) := by decide +kernel
theorem dX8_pace_40 : decode cX8_pace 40 = .ok (.iastore, 1) := by decide +kernel
theorem dX8_pace_41 : decode cX8_pace 41 = .ok (.iload_n 3, 1) := by decide +kernel
theorem dX8_pace_42 : decode cX8_pace 42 = .ok (.ireturn, 1) := by decide +kernel
theorem dX8_type_0 : decode cX8_type 0 = .ok (.iload_n 3, 1) := by decide +kernel
theorem dX8_type_1 : decode cX8_type 1 = .ok (.i2l, 1) := by decide +kernel
theorem dX8_type_2 : decode cX8_type 2 = .ok (.lconst 1, 1) := by decide +kernel
theorem dX8_type_3 : decode cX8_type 3 = .ok (.ldc2_w 122, 3) := by decide +kernel
theorem dX8_type_6 : decode cX8_type 6 = .ok (.invokestatic 73, 3) := by decide +kernel
theorem dX8_type_9 : decode cX8_type 9 = .ok (.ifCond .ne 5, 3) := by decide +kernel
theorem dX8_type_12 : decode cX8_type 12 = .ok (.iconst (-1), 1) := by decide +kernel
theorem dX8_type_13 : decode cX8_type 13 = .ok (.ireturn, 1) := by decide +kernel
theorem dX8_type_14 : decode cX8_type 14 = .ok (.iconst 0, 1) := by decide +kernel
theorem dX8_type_15 : decode cX8_type 15 = .ok (.istore 4, 2) := by decide +kernel
theorem dX8_type_17 : decode cX8_type 17 = .ok (.iload 4, 2) := by decide +kernel
theorem dX8_type_19 : decode cX8_type 19 = .ok (.iload_n 3, 1) := by decide +kernel
theorem dX8_type_20 : decode cX8_type 20 = .ok (.if_icmp .ge 34, 3) := by decide +kernel
theorem dX8_type_23 : decode cX8_type 23 = .ok (.lload_n 1, 1) := by decide +kernel
theorem dX8_type_24 : decode cX8_type 24 = .ok (.bipush 8, 2) := by decide +kernel
theorem dX8_type_26 : decode cX8_type 26 = .ok (.iload 4, 2) := by decide +kernel
theorem dX8_type_28 : decode cX8_type 28 = .ok (.imul, 1) := by decide +kernel
theorem dX8_type_29 : decode cX8_type 29 = .ok (.lshr, 1) := by decide +kernel
theorem dX8_type_30 : decode cX8_type 30 = .ok (.ldc2_w 124, 3) := by decide +kernel
theorem dX8_type_33 : decode cX8_type 33 = .ok (.land, 1) := by decide +kernel
theorem dX8_type_34 : decode cX8_type 34 = .ok (.ldc2_w 126, 3) := by decide +kernel
theorem dX8_type_37 : decode cX8_type 37 = .ok (.ldc2_w 128, 3) := by decide +kernel
theorem dX8_type_40 : decode cX8_type 40 = .ok (.invokestatic 73, 3) := by decide +kernel
theorem dX8_type_43 : decode cX8_type 43 = .ok (.ifCond .ne 5, 3) := by decide +kernel
theorem dX8_type_46 : decode cX8_type 46 = .ok (.iconst (-1), 1) := by decide +kernel
theorem dX8_type_47 : decode cX8_type 47 = .ok (.ireturn, 1) := by decide +kernel
theorem dX8_type_48 : decode cX8_type 48 = .ok (.iinc 4 1, 3) := by decide +kernel
theorem dX8_type_51 : decode cX8_type 51 = .ok (.goto (-34), 3) := by decide +kernel
theorem dX8_type_54 : decode cX8_type 54 = .ok (.aload_n 0, 1) := by decide +kernel
theorem dX8_type_55 : decode cX8_type 55 = .ok (.getfield 130, 3) := by decide +kernel
theorem dX8_type_58 : decode cX8_type 58 = .ok (.iload_n 3, 1) := by decide +kernel
theorem dX8_type_59 : decode cX8_type 59 = .ok (.iadd, 1) := by decide +kernel
theorem dX8_type_60 : decode cX8_type 60 = .ok (.bipush 100, 2) := by decide +kernel
theorem dX8_type_62 : decode cX8_type 62 = .ok (.if_icmp .le 6, 3) := by decide +kernel
theorem dX8_type_65 : decode cX8_type 65 = .ok (.bipush (-3), 2) := by decide +kernel
theorem dX8_type_67 : decode cX8_type 67 = .ok (.ireturn, 1) := by decide +kernel
theorem dX8_type_68 : decode cX8_type 68 = .ok (.iload_n 3, 1) := by decide +kernel
theorem dX8_type_69 : decode cX8_type 69 = .ok (.iconst 1, 1) := by decide +kernel
theorem dX8_type_70 : decode cX8_type 70 = .ok (.isub, 1) := by decide +kernel
theorem dX8_type_71 : decode cX8_type 71 = .ok (.istore 4, 2) := by decide +kernel
theorem dX8_type_73 : decode cX8_type 73 = .ok (.iload 4, 2) := by decide +kernel
theorem dX8_type_75 : decode cX8_type 75 = .ok (.ifCond .lt 40, 3) := by decide +kernel
theorem dX8_type_78 : decode cX8_type 78 = .ok (.aload_n 0, 1) := by decide +kernel
theorem dX8_type_79 : decode cX8_type 79 = .ok (.getfield 22, 3) := by decide +kernel
theorem dX8_type_82 : decode cX8_type 82 = .ok (.aload_n 0, 1) := by decide +kernel
theorem dX8_type_83 : decode cX8_type 83 = .ok (.getfield 130, 3) := by decide +kernel
theorem dX8_type_86 : decode cX8_type 86 = .ok (.lload_n 1, 1) := by decide +kernel
theorem dX8_type_87 : decode cX8_type 87 = .ok (.bipush 8, 2) := by decide +kernel
theorem dX8_type_89 : decode cX8_type 89 = .ok (.iload 4, 2) := by decide +kernel
theorem dX8_type_91 : decode cX8_type 91 = .ok (.imul, 1) := by decide +kernel
theorem dX8_type_92 : decode cX8_type 92 = .ok (.lshr, 1) := by decide +kernel
theorem dX8_type_93 : decode cX8_type 93 = .ok (.ldc2_w 124, 3) := by decide +kernel
theorem dX8_type_96 : decode cX8_type 96 = .ok (.land, 1) := by decide +kernel
theorem dX8_type_97 : decode cX8_type 97 = .ok (.l2i, 1) := by decide +kernel
theorem dX8_type_98 : decode cX8_type 98 = .ok (.iastore, 1) := by decide +kernel
theorem dX8_type_99 : decode cX8_type 99 = .ok (.aload_n 0, 1) := by decide +kernel
theorem dX8_type_100 : decode cX8_type 100 = .ok (.dup, 1) := by decide +kernel
theorem dX8_type_101 : decode cX8_type 101 = .ok (.getfield 130, 3) := by decide +kernel
theorem dX8_type_104 : decode cX8_type 104 = .ok (.iconst 1, 1) := by decide +kernel
theorem dX8_type_105 : decode cX8_type 105 = .ok (.iadd, 1) := by decide +kernel
theorem dX8_type_106 : decode cX8_type 106 = .ok (.putfield 130, 3) := by decide +kernel
theorem dX8_type_109 : decode cX8_type 109 = .ok (.iinc 4 (-1), 3) := by decide +kernel
theorem dX8_type_112 : decode cX8_type 112 = .ok (.goto (-39), 3) := by decide +kernel
theorem dX8_type_115 : decode cX8_type 115 = .ok (.aload_n 0, 1) := by decide +kernel
theorem dX8_type_116 : decode cX8_type 116 = .ok (.getfield 130, 3) := by decide +kernel
theorem dX8_type_119 : decode cX8_type 119 = .ok (.ireturn, 1) := by decide +kernel
theorem dX8_here_0 : decode cX8_here 0 = .ok (.aload_n 0, 1) := by decide +kernel
theorem dX8_here_1 : decode cX8_here 1 = .ok (.getfield 133, 3) := by decide +kernel
theorem dX8_here_4 : decode cX8_here 4 = .ok (.aload_n 0, 1) := by decide +kernel
theorem dX8_here_5 : decode cX8_here 5 = .ok (.getfield 130, 3) := by decide +kernel
theorem dX8_here_8 : decode cX8_here 8 = .ok (.if_icmp .ge 30, 3) := by decide +kernel
theorem dX8_here_11 : decode cX8_here 11 = .ok (.aload_n 0, 1) := by decide +kernel
theorem dX8_here_12 : decode cX8_here 12 = .ok (.getfield 22, 3) := by decide +kernel
theorem dX8_here_15 : decode cX8_here 15 = .ok (.aload_n 0, 1) := by decide +kernel
theorem dX8_here_16 : decode cX8_here 16 = .ok (.getfield 133, 3) := by decide +kernel
theorem dX8_here_19 : decode cX8_here 19 = .ok (.iaload, 1) := by decide +kernel
theorem dX8_here_20 : decode cX8_here 20 = .ok (.bipush 32, 2) := by decide +kernel
theorem dX8_here_22 : decode cX8_here 22 = .ok (.if_icmp .ne 16, 3) := by decide +kernel
theorem dX8_here_25 : decode cX8_here 25 = .ok (.aload_n 0, 1) := by decide +kernel
theorem dX8_here_26 : decode cX8_here 26 = .ok (.dup, 1) := by decide +kernel
theorem dX8_here_27 : decode cX8_here 27 = .ok (.getfield 133, 3) := by decide +kernel
theorem dX8_here_30 : decode cX8_here 30 = .ok (.iconst 1, 1) := by decide +kernel
theorem dX8_here_31 : decode cX8_here 31 = .ok (.iadd, 1) := by decide +kernel
theorem dX8_here_32 : decode cX8_here 32 = .ok (.putfield 133, 3) := by decide +kernel
theorem dX8_here_35 : decode cX8_here 35 = .ok (.goto (-35), 3) := by decide +kernel
theorem dX8_here_38 : decode cX8_here 38 = .ok (.aload_n 0, 1) := by decide +kernel
theorem dX8_here_39 : decode cX8_here 39 = .ok (.getfield 133, 3) := by decide +kernel
theorem dX8_here_42 : decode cX8_here 42 = .ok (.aload_n 0, 1) := by decide +kernel
theorem dX8_here_43 : decode cX8_here 43 = .ok (.getfield 130, 3) := by decide +kernel
theorem dX8_here_46 : decode cX8_here 46 = .ok (.if_icmp .ge 15, 3) := by decide +kernel
theorem dX8_here_49 : decode cX8_here 49 = .ok (.aload_n 0, 1) := by decide +kernel
theorem dX8_here_50 : decode cX8_here 50 = .ok (.getfield 22, 3) := by decide +kernel
theorem dX8_here_53 : decode cX8_here 53 = .ok (.aload_n 0, 1) := by decide +kernel
theorem dX8_here_54 : decode cX8_here 54 = .ok (.getfield 133, 3) := by decide +kernel
theorem dX8_here_57 : decode cX8_here 57 = .ok (.iaload, 1) := by decide +kernel
theorem dX8_here_58 : decode cX8_here 58 = .ok (.goto 4, 3) := by decide +kernel
theorem dX8_here_61 : decode cX8_here 61 = .ok (.iconst 0, 1) := by decide +kernel
theorem dX8_here_62 : decode cX8_here 62 = .ok (.ireturn, 1) := by decide +kernel
theorem dX8_has_0 : decode cX8_has 0 = .ok (.aload_n 0, 1) := by decide +kernel
theorem dX8_has_1 : decode cX8_has 1 = .ok (.getfield 136, 3) := by decide +kernel
theorem dX8_has_4 : decode cX8_has 4 = .ok (.ifCond .ne 15, 3) := by decide +kernel
theorem dX8_has_7 : decode cX8_has 7 = .ok (.aload_n 0, 1) := by decide +kernel
theorem dX8_has_8 : decode cX8_has 8 = .ok (.invokevirtual 140, 3) := by decide +kernel
theorem dX8_has_11 : decode cX8_has 11 = .ok (.iload_n 1, 1) := by decide +kernel
theorem dX8_has_12 : decode cX8_has 12 = .ok (.if_icmp .ne 7, 3) := by decide +kernel
theorem dX8_has_15 : decode cX8_has 15 = .ok (.iconst 1, 1) := by decide +kernel
theorem dX8_has_16 : decode cX8_has 16 = .ok (.goto 4, 3) := by decide +kernel
theorem dX8_has_19 : decode cX8_has 19 = .ok (.iconst 0, 1) := by decide +kernel
theorem dX8_has_20 : decode cX8_has 20 = .ok (.istore_n 2, 1) := by decide +kernel
theorem dX8_has_21 : decode cX8_has 21 = .ok (.aload_n 0, 1) := by decide +kernel
theorem dX8_has_22 : decode cX8_has 22 = .ok (.dup, 1) := by decide +kernel
theorem dX8_has_23 : decode cX8_has 23 = .ok (.getfield 133, 3) := by decide +kernel
theorem dX8_has_26 : decode cX8_has 26 = .ok (.iload_n 2, 1) := by decide +kernel
theorem dX8_has_27 : decode cX8_has 27 = .ok (.ifCond .eq 7, 3) := by decide +kernel
theorem dX8_has_30 : decode cX8_has 30 = .ok (.iconst 1, 1) := by decide +kernel
theorem dX8_has_31 : decode cX8_has 31 = .ok (.goto 4, 3) := by decide +kernel
theorem dX8_has_34 : decode cX8_has 34 = .ok (.iconst 0, 1) := by decide +kernel
theorem dX8_has_35 : decode cX8_has 35 = .ok (.iadd, 1) := by decide +kernel
theorem dX8_has_36 : decode cX8_has 36 = .ok (.putfield 133, 3) := by decide +kernel
theorem dX8_has_39 : decode cX8_has 39 = .ok (.iload_n 2, 1) := by decide +kernel
theorem dX8_has_40 : decode cX8_has 40 = .ok (.ireturn, 1) := by decide +kernel
theorem dX8_number_0 : decode cX8_number 0 = .ok (.aload_n 0, 1) := by decide +kernel
theorem dX8_number_1 : decode cX8_number 1 = .ok (.getfield 136, 3) := by decide +kernel
theorem dX8_number_4 : decode cX8_number 4 = .ok (.ifCond .ne 20, 3) := by decide +kernel
theorem dX8_number_7 : decode cX8_number 7 = .ok (.aload_n 0, 1) := by decide +kernel
theorem dX8_number_8 : decode cX8_number 8 = .ok (.invokevirtual 140, 3) := by decide +kernel
theorem dX8_number_11 : decode cX8_number 11 = .ok (.i2l, 1) := by decide +kernel
theorem dX8_number_12 : decode cX8_number 12 = .ok (.ldc2_w 144, 3) := by decide +kernel
theorem dX8_number_15 : decode cX8_number 15 = .ok (.ldc2_w 146, 3) := by decide +kernel
theorem dX8_number_18 : decode cX8_number 18 = .ok (.invokestatic 73, 3) := by decide +kernel
theorem dX8_number_21 : decode cX8_number 21 = .ok (.ifCond .ne 10, 3) := by decide +kernel
theorem dX8_number_24 : decode cX8_number 24 = .ok (.aload_n 0, 1) := by decide +kernel
theorem dX8_number_25 : decode cX8_number 25 = .ok (.iconst 1, 1) := by decide +kernel
theorem dX8_number_26 : decode cX8_number 26 = .ok (.putfield 136, 3) := by decide +kernel
theorem dX8_number_29 : decode cX8_number 29 = .ok (.iconst 0, 1) := by decide +kernel
theorem dX8_number_30 : decode cX8_number 30 = .ok (.ireturn, 1) := by decide +kernel
theorem dX8_number_31 : decode cX8_number 31 = .ok (.aload_n 0, 1) := by decide +kernel
theorem dX8_number_32 : decode cX8_number 32 = .ok (.getfield 133, 3) := by decide +kernel
theorem dX8_number_35 : decode cX8_number 35 = .ok (.istore_n 3, 1) := by decide +kernel
theorem dX8_number_36 : decode cX8_number 36 = .ok (.iconst 0, 1) := by decide +kernel
theorem dX8_number_37 : decode cX8_number 37 = .ok (.istore 4, 2) := by decide +kernel
theorem dX8_number_39 : decode cX8_number 39 = .ok (.aload_n 0, 1) := by decide +kernel
theorem dX8_number_40 : decode cX8_number 40 = .ok (.getfield 133, 3) := by decide +kernel
theorem dX8_number_43 : decode cX8_number 43 = .ok (.aload_n 0, 1) := by decide +kernel
theorem dX8_number_44 : decode cX8_number 44 = .ok (.getfield 130, 3) := by decide +kernel
theorem dX8_number_47 : decode cX8_number 47 = .ok (.if_icmp .ge 71, 3) := by decide +kernel
theorem dX8_number_50 : decode cX8_number 50 = .ok (.aload_n 0, 1) := by decide +kernel
theorem dX8_number_51 : decode cX8_number 51 = .ok (.getfield 22, 3) := by decide +kernel
theorem dX8_number_54 : decode cX8_number 54 = .ok (.aload_n 0, 1) := by decide +kernel
theorem dX8_number_55 : decode cX8_number 55 = .ok (.getfield 133, 3) := by decide +kernel
theorem dX8_number_58 : decode cX8_number 58 = .ok (.iaload, 1) := by decide +kernel
theorem dX8_number_59 : decode cX8_number 59 = .ok (.i2l, 1) := by decide +kernel
theorem dX8_number_60 : decode cX8_number 60 = .ok (.ldc2_w 144, 3) := by decide +kernel
theorem dX8_number_63 : decode cX8_number 63 = .ok (.ldc2_w 146, 3) := by decide +kernel
theorem dX8_number_66 : decode cX8_number 66 = .ok (.invokestatic 73, 3) := by decide +kernel
theorem dX8_number_69 : decode cX8_number 69 = .ok (.ifCond .eq 49, 3) := by decide +kernel
theorem dX8_number_72 : decode cX8_number 72 = .ok (.iload 4, 2) := by decide +kernel
theorem dX8_number_74 : decode cX8_number 74 = .ok (.sipush 999, 3) := by decide +kernel
theorem dX8_number_77 : decode cX8_number 77 = .ok (.if_icmp .le 8, 3) := by decide +kernel
theorem dX8_number_80 : decode cX8_number 80 = .ok (.iload 4, 2) := by decide +kernel
theorem dX8_number_82 : decode cX8_number 82 = .ok (.goto 21, 3) := by decide +kernel
theorem dX8_number_85 : decode cX8_number 85 = .ok (.bipush 10, 2) := by decide +kernel
theorem dX8_number_87 : decode cX8_number 87 = .ok (.iload 4, 2) := by decide +kernel
theorem dX8_number_89 : decode cX8_number 89 = .ok (.imul, 1) := by decide +kernel
theorem dX8_number_90 : decode cX8_number 90 = .ok (.aload_n 0, 1) := by decide +kernel
theorem dX8_number_91 : decode cX8_number 91 = .ok (.getfield 22, 3) := by decide +kernel
theorem dX8_number_94 : decode cX8_number 94 = .ok (.aload_n 0, 1) := by decide +kernel
theorem dX8_number_95 : decode cX8_number 95 = .ok (.getfield 133, 3) := by decide +kernel
theorem dX8_number_98 : decode cX8_number 98 = .ok (.iaload, 1) := by decide +kernel
theorem dX8_number_99 : decode cX8_number 99 = .ok (.iadd, 1) := by decide +kernel
theorem dX8_number_100 : decode cX8_number 100 = .ok (.bipush 48, 2) := by decide +kernel
theorem dX8_number_102 : decode cX8_number 102 = .ok (.isub, 1) := by decide +kernel
theorem dX8_number_103 : decode cX8_number 103 = .ok (.istore 4, 2) := by decide +kernel
theorem dX8_number_105 : decode cX8_number 105 = .ok (.aload_n 0, 1) := by decide +kernel
theorem dX8_number_106 : decode cX8_number 106 = .ok (.dup, 1) := by decide +kernel
theorem dX8_number_107 : decode cX8_number 107 = .ok (.getfield 133, 3) := by decide +kernel
theorem dX8_number_110 : decode cX8_number 110 = .ok (.iconst 1, 1) := by decide +kernel
theorem dX8_number_111 : decode cX8_number 111 = .ok (.iadd, 1) := by decide +kernel
theorem dX8_number_112 : decode cX8_number 112 = .ok (.putfield 133, 3) := by decide +kernel
theorem dX8_number_115 : decode cX8_number 115 = .ok (.goto (-76), 3) := by decide +kernel
theorem dX8_number_118 : decode cX8_number 118 = .ok (.aload_n 0, 1) := by decide +kernel
theorem dX8_number_119 : decode cX8_number 119 = .ok (.iload 4, 2) := by decide +kernel
theorem dX8_number_121 : decode cX8_number 121 = .ok (.i2l, 1) := by decide +kernel
theorem dX8_number_122 : decode cX8_number 122 = .ok (.iload_n 1, 1) := by decide +kernel
theorem dX8_number_123 : decode cX8_number 123 = .ok (.i2l, 1) := by decide +kernel
theorem dX8_number_124 : decode cX8_number 124 = .ok (.iload_n 2, 1) := by decide +kernel
theorem dX8_number_125 : decode cX8_number 125 = .ok (.i2l, 1) := by decide +kernel
theorem dX8_number_126 : decode cX8_number 126 = .ok (.invokestatic 73, 3) := by decide +kernel
theorem dX8_number_129 : decode cX8_number 129 = .ok (.ifCond .ne 7, 3) := by decide +kernel
theorem dX8_number_132 : decode cX8_number 132 = .ok (.iconst 1, 1) := by decide +kernel
theorem dX8_number_133 : decode cX8_number 133 = .ok (.goto 4, 3) := by decide +kernel
theorem dX8_number_136 : decode cX8_number 136 = .ok (.iconst 0, 1) := by decide +kernel
theorem dX8_number_137 : decode cX8_number 137 = .ok (.putfield 136, 3) := by decide +kernel
theorem dX8_number_140 : decode cX8_number 140 = .ok (.aload_n 0, 1) := by decide +kernel
theorem dX8_number_141 : decode cX8_number 141 = .ok (.aload_n 0, 1) := by decide +kernel
theorem dX8_number_142 : decode cX8_number 142 = .ok (.getfield 136, 3) := by decide +kernel
theorem dX8_number_145 : decode cX8_number 145 = .ok (.ifCond .eq 7, 3) := by decide +kernel
theorem dX8_number_148 : decode cX8_number 148 = .ok (.iload_n 3, 1) := by decide +kernel
theorem dX8_number_149 : decode cX8_number 149 = .ok (.goto 7, 3) := by decide +kernel
theorem dX8_number_152 : decode cX8_number 152 = .ok (.aload_n 0, 1) := by decide +kernel
theorem dX8_number_153 : decode cX8_number 153 = .ok (.getfield 133, 3) := by decide +kernel
theorem dX8_number_156 : decode cX8_number 156 = .ok (.putfield 133, 3) := by decide +kernel
theorem dX8_number_159 : decode cX8_number 159 = .ok (.iload 4, 2) := by decide +kernel
theorem dX8_number_161 : decode cX8_number 161 = .ok (.ireturn, 1) := by decide +kernel
theorem dX8_digit_0 : decode cX8_digit 0 = .ok (.aload_n 0, 1) := by decide +kernel
theorem dX8_digit_1 : decode cX8_digit 1 = .ok (.aload_n 0, 1) := by decide +kernel
theorem dX8_digit_2 : decode cX8_digit 2 = .ok (.getfield 136, 3) := by decide +kernel
theorem dX8_digit_5 : decode cX8_digit 5 = .ok (.ifCond .ne 20, 3) := by decide +kernel
theorem dX8_digit_8 : decode cX8_digit 8 = .ok (.aload_n 0, 1) := by decide +kernel
theorem dX8_digit_9 : decode cX8_digit 9 = .ok (.invokevirtual 140, 3) := by decide +kernel
theorem dX8_digit_12 : decode cX8_digit 12 = .ok (.i2l, 1) := by decide +kernel
theorem dX8_digit_13 : decode cX8_digit 13 = .ok (.ldc2_w 144, 3) := by decide +kernel
theorem dX8_digit_16 : decode cX8_digit 16 = .ok (.ldc2_w 146, 3) := by decide +kernel
theorem dX8_digit_19 : decode cX8_digit 19 = .ok (.invokestatic 73, 3) := by decide +kernel
theorem dX8_digit_22 : decode cX8_digit 22 = .ok (.ifCond .ne 7, 3) := by decide +kernel
theorem dX8_digit_25 : decode cX8_digit 25 = .ok (.iconst 1, 1) := by decide +kernel
theorem dX8_digit_26 : decode cX8_digit 26 = .ok (.goto 4, 3) := by decide +kernel
theorem dX8_digit_29 : decode cX8_digit 29 = .ok (.iconst 0, 1) := by decide +kernel
theorem dX8_digit_30 : decode cX8_digit 30 = .ok (.putfield 136, 3) := by decide +kernel
theorem dX8_digit_33 : decode cX8_digit 33 = .ok (.aload_n 0, 1) := by decide +kernel
theorem dX8_digit_34 : decode cX8_digit 34 = .ok (.getfield 136, 3) := by decide +kernel
theorem dX8_digit_37 : decode cX8_digit 37 = .ok (.ifCond .eq 7, 3) := by decide +kernel
theorem dX8_digit_40 : decode cX8_digit 40 = .ok (.iconst 0, 1) := by decide +kernel
theorem dX8_digit_41 : decode cX8_digit 41 = .ok (.goto 10, 3) := by decide +kernel
theorem dX8_digit_44 : decode cX8_digit 44 = .ok (.aload_n 0, 1) := by decide +kernel
theorem dX8_digit_45 : decode cX8_digit 45 = .ok (.invokevirtual 140, 3) := by decide +kernel
theorem dX8_digit_48 : decode cX8_digit 48 = .ok (.bipush 48, 2) := by decide +kernel
theorem dX8_digit_50 : decode cX8_digit 50 = .ok (.isub, 1) := by decide +kernel
theorem dX8_digit_51 : decode cX8_digit 51 = .ok (.istore_n 1, 1) := by decide +kernel
theorem dX8_digit_52 : decode cX8_digit 52 = .ok (.aload_n 0, 1) := by decide +kernel
theorem dX8_digit_53 : decode cX8_digit 53 = .ok (.dup, 1) := by decide +kernel
theorem dX8_digit_54 : decode cX8_digit 54 = .ok (.getfield 133, 3) := by decide +kernel
theorem dX8_digit_57 : decode cX8_digit 57 = .ok (.aload_n 0, 1) := by decide +kernel
theorem dX8_digit_58 : decode cX8_digit 58 = .ok (.getfield 136, 3) := by decide +kernel
theorem dX8_digit_61 : decode cX8_digit 61 = .ok (.ifCond .eq 7, 3) := by decide +kernel
theorem dX8_digit_64 : decode cX8_digit 64 = .ok (.iconst 0, 1) := by decide +kernel
theorem dX8_digit_65 : decode cX8_digit 65 = .ok (.goto 4, 3) := by decide +kernel
theorem dX8_digit_68 : decode cX8_digit 68 = .ok (.iconst 1, 1) := by decide +kernel
theorem dX8_digit_69 : decode cX8_digit 69 = .ok (.iadd, 1) := by decide +kernel
theorem dX8_digit_70 : decode cX8_digit 70 = .ok (.putfield 133, 3) := by decide +kernel
theorem dX8_digit_73 : decode cX8_digit 73 = .ok (.iload_n 1, 1) := by decide +kernel
theorem dX8_digit_74 : decode cX8_digit 74 = .ok (.ireturn, 1) := by decide +kernel
theorem dX8_mileClause_0 : decode cX8_mileClause 0 = .ok (.aload_n 0, 1) := by decide +kernel
theorem dX8_mileClause_1 : decode cX8_mileClause 1 = .ok (.getfield 25, 3) := by decide +kernel
theorem dX8_mileClause_4 : decode cX8_mileClause 4 = .ok (.iload_n 1, 1) := by decide +kernel
theorem dX8_mileClause_5 : decode cX8_mileClause 5 = .ok (.aload_n 0, 1) := by decide +kernel
theorem dX8_mileClause_6 : decode cX8_mileClause 6 = .ok (.bipush 20, 2) := by decide +kernel
theorem dX8_mileClause_8 : decode cX8_mileClause 8 = .ok (.sipush 250, 3) := by decide +kernel
theorem dX8_mileClause_11 : decode cX8_mileClause 11 = .ok (.invokevirtual 148, 3) := by decide +kernel
theorem dX8_mileClause_14 : decode cX8_mileClause 14 = .ok (.iastore, 1) := by decide +kernel
theorem dX8_mileClause_15 : decode cX8_mileClause 15 = .ok (.aload_n 0, 1) := by decide +kernel
theorem dX8_mileClause_16 : decode cX8_mileClause 16 = .ok (.aload_n 0, 1) := by decide +kernel
theorem dX8_mileClause_17 : decode cX8_mileClause 17 = .ok (.bipush 119, 2) := by decide +kernel
theorem dX8_mileClause_19 : decode cX8_mileClause 19 = .ok (.invokevirtual 152, 3) := by decide +kernel
theorem dX8_mileClause_22 : decode cX8_mileClause 22 = .ok (.ifCond .ne 7, 3) := by decide +kernel
theorem dX8_mileClause_25 : decode cX8_mileClause 25 = .ok (.iconst 1, 1) := by decide +kernel
theorem dX8_mileClause_26 : decode cX8_mileClause 26 = .ok (.goto 4, 3) := by decide +kernel
theorem dX8_mileClause_29 : decode cX8_mileClause 29 = .ok (.iconst 0, 1) := by decide +kernel
theorem dX8_mileClause_30 : decode cX8_mileClause 30 = .ok (.putfield 136, 3) := by decide +kernel
theorem dX8_mileClause_33 : decode cX8_mileClause 33 = .ok (.aload_n 0, 1) := by decide +kernel
theorem dX8_mileClause_34 : decode cX8_mileClause 34 = .ok (.getfield 25, 3) := by decide +kernel
theorem dX8_mileClause_37 : decode cX8_mileClause 37 = .ok (.iload_n 1, 1) := by decide +kernel
theorem dX8_mileClause_38 : decode cX8_mileClause 38 = .ok (.iconst 1, 1) := by decide +kernel
theorem dX8_mileClause_39 : decode cX8_mileClause 39 = .ok (.iadd, 1) := by decide +kernel
theorem dX8_mileClause_40 : decode cX8_mileClause 40 = .ok (.aload_n 0, 1) := by decide +kernel
theorem dX8_mileClause_41 : decode cX8_mileClause 41 = .ok (.bipush 10, 2) := by decide +kernel
theorem dX8_mileClause_43 : decode cX8_mileClause 43 = .ok (.bipush 99, 2) := by decide +kernel
theorem dX8_mileClause_45 : decode cX8_mileClause 45 = .ok (.invokevirtual 148, 3) := by decide +kernel
theorem dX8_mileClause_48 : decode cX8_mileClause 48 = .ok (.iastore, 1) := by decide +kernel
theorem dX8_mileClause_49 : decode cX8_mileClause 49 = .ok (.aload_n 0, 1) := by decide +kernel
theorem dX8_mileClause_50 : decode cX8_mileClause 50 = .ok (.getfield 25, 3) := by decide +kernel
theorem dX8_mileClause_53 : decode cX8_mileClause 53 = .ok (.iload_n 1, 1) := by decide +kernel
theorem dX8_mileClause_54 : decode cX8_mileClause 54 = .ok (.iconst 2, 1) := by decide +kernel
theorem dX8_mileClause_55 : decode cX8_mileClause 55 = .ok (.iadd, 1) := by decide +kernel
theorem dX8_mileClause_56 : decode cX8_mileClause 56 = .ok (.aload_n 0, 1) := by decide +kernel
theorem dX8_mileClause_57 : decode cX8_mileClause 57 = .ok (.bipush 115, 2) := by decide +kernel
theorem dX8_mileClause_59 : decode cX8_mileClause 59 = .ok (.invokevirtual 152, 3) := by decide +kernel
theorem dX8_mileClause_62 : decode cX8_mileClause 62 = .ok (.ifCond .eq 10, 3) := by decide +kernel
theorem dX8_mileClause_65 : decode cX8_mileClause 65 = .ok (.aload_n 0, 1) := by decide +kernel
theorem dX8_mileClause_66 : decode cX8_mileClause 66 = .ok (.invokevirtual 155, 3) := by decide +kernel
theorem dX8_mileClause_69 : decode cX8_mileClause 69 = .ok (.goto 5, 3) := by decide +kernel
theorem dX8_mileClause_72 : decode cX8_mileClause 72 = .ok (.bipush 9, 2) := by decide +kernel
theorem dX8_mileClause_74 : decode cX8_mileClause 74 = .ok (.iastore, 1) := by decide +kernel
theorem dX8_mileClause_75 : decode cX8_mileClause 75 = .ok (.aload_n 0, 1) := by decide +kernel
theorem dX8_mileClause_76 : decode cX8_mileClause 76 = .ok (.getfield 25, 3) := by decide +kernel
theorem dX8_mileClause_79 : decode cX8_mileClause 79 = .ok (.iload_n 1, 1) := by decide +kernel
theorem dX8_mileClause_80 : decode cX8_mileClause 80 = .ok (.iconst 3, 1) := by decide +kernel
theorem dX8_mileClause_81 : decode cX8_mileClause 81 = .ok (.iadd, 1) := by decide +kernel
theorem dX8_mileClause_82 : decode cX8_mileClause 82 = .ok (.aload_n 0, 1) := by decide +kernel
theorem dX8_mileClause_83 : decode cX8_mileClause 83 = .ok (.bipush 109, 2) := by decide +kernel
theorem dX8_mileClause_85 : decode cX8_mileClause 85 = .ok (.invokevirtual 152, 3) := by decide +kernel
theorem dX8_mileClause_88 : decode cX8_mileClause 88 = .ok (.ifCond .eq 13, 3) := by decide +kernel
theorem dX8_mileClause_91 : decode cX8_mileClause 91 = .ok (.aload_n 0, 1) := by decide +kernel
theorem dX8_mileClause_92 : decode cX8_mileClause 92 = .ok (.iconst 0, 1) := by decide +kernel
theorem dX8_mileClause_93 : decode cX8_mileClause 93 = .ok (.bipush 20, 2) := by decide +kernel
theorem dX8_mileClause_95 : decode cX8_mileClause 95 = .ok (.invokevirtual 148, 3) := by decide +kernel
theorem dX8_mileClause_98 : decode cX8_mileClause 98 = .ok (.goto 4, 3) := by decide +kernel
theorem dX8_mileClause_101 : decode cX8_mileClause 101 = .ok (.iconst 0, 1) := by decide +kernel
theorem dX8_mileClause_102 : decode cX8_mileClause 102 = .ok (.iastore, 1) := by decide +kernel
theorem dX8_mileClause_103 : decode cX8_mileClause 103 = .ok (.aload_n 0, 1) := by decide +kernel
theorem dX8_mileClause_104 : decode cX8_mileClause 104 = .ok (.getfield 25, 3) := by decide +kernel
theorem dX8_mileClause_107 : decode cX8_mileClause 107 = .ok (.iload_n 1, 1) := by decide +kernel
theorem dX8_mileClause_108 : decode cX8_mileClause 108 = .ok (.iconst 4, 1) := by decide +kernel
theorem dX8_mileClause_109 : decode cX8_mileClause 109 = .ok (.iadd, 1) := by decide +kernel
theorem dX8_mileClause_110 : decode cX8_mileClause 110 = .ok (.aload_n 0, 1) := by decide +kernel
theorem dX8_mileClause_111 : decode cX8_mileClause 111 = .ok (.bipush 113, 2) := by decide +kernel
theorem dX8_mileClause_113 : decode cX8_mileClause 113 = .ok (.invokevirtual 152, 3) := by decide +kernel
theorem dX8_mileClause_116 : decode cX8_mileClause 116 = .ok (.ifCond .eq 13, 3) := by decide +kernel
theorem dX8_mileClause_119 : decode cX8_mileClause 119 = .ok (.aload_n 0, 1) := by decide +kernel
theorem dX8_mileClause_120 : decode cX8_mileClause 120 = .ok (.iconst 0, 1) := by decide +kernel
theorem dX8_mileClause_121 : decode cX8_mileClause 121 = .ok (.bipush 40, 2) := by decide +kernel
theorem dX8_mileClause_123 : decode cX8_mileClause 123 = .ok (.invokevirtual 148, 3) := by decide +kernel
theorem dX8_mileClause_126 : decode cX8_mileClause 126 = .ok (.goto 4, 3) := by decide +kernel
theorem dX8_mileClause_129 : decode cX8_mileClause 129 = .ok (.iconst 0, 1) := by decide +kernel
theorem dX8_mileClause_130 : decode cX8_mileClause 130 = .ok (.iastore, 1) := by decide +kernel
theorem dX8_mileClause_131 : decode cX8_mileClause 131 = .ok (.return_, 1) := by decide +kernel
theorem dX8_channel_0 : decode cX8_channel 0 = .ok (.aload_n 0, 1) := by decide +kernel
theorem dX8_channel_1 : decode cX8_channel 1 = .ok (.iconst 0, 1) := by decide +kernel
theorem dX8_channel_2 : decode cX8_channel 2 = .ok (.putfield 133, 3) := by decide +kernel
theorem dX8_channel_5 : decode cX8_channel 5 = .ok (.aload_n 0, 1) := by decide +kernel
theorem dX8_channel_6 : decode cX8_channel 6 = .ok (.iconst 0, 1) := by decide +kernel
theorem dX8_channel_7 : decode cX8_channel 7 = .ok (.putfield 136, 3) := by decide +kernel
theorem dX8_channel_10 : decode cX8_channel 10 = .ok (.iconst 0, 1) := by decide +kernel
theorem dX8_channel_11 : decode cX8_channel 11 = .ok (.istore_n 1, 1) := by decide +kernel
theorem dX8_channel_12 : decode cX8_channel 12 = .ok (.iconst 1, 1) := by decide +kernel
theorem dX8_channel_13 : decode cX8_channel 13 = .ok (.istore_n 2, 1) := by decide +kernel
theorem dX8_channel_14 : decode cX8_channel 14 = .ok (.iload_n 2, 1) := by decide +kernel
theorem dX8_channel_15 : decode cX8_channel 15 = .ok (.ifCond .eq 37, 3) := by decide +kernel
theorem dX8_channel_18 : decode cX8_channel 18 = .ok (.aload_n 0, 1) := by decide +kernel
theorem dX8_channel_19 : decode cX8_channel 19 = .ok (.iconst 5, 1) := by decide +kernel
theorem dX8_channel_20 : decode cX8_channel 20 = .ok (.iload_n 1, 1) := by decide +kernel
theorem dX8_channel_21 : decode cX8_channel 21 = .ok (.imul, 1) := by decide +kernel
theorem dX8_channel_22 : decode cX8_channel 22 = .ok (.invokevirtual 158, 3) := by decide +kernel
theorem dX8_channel_25 : decode cX8_channel 25 = .ok (.iinc 1 1, 3) := by decide +kernel
theorem dX8_channel_28 : decode cX8_channel 28 = .ok (.iload_n 1, 1) := by decide +kernel
theorem dX8_channel_29 : decode cX8_channel 29 = .ok (.bipush 8, 2) := by decide +kernel
theorem dX8_channel_31 : decode cX8_channel 31 = .ok (.if_icmp .ge 16, 3) := by decide +kernel
theorem dX8_channel_34 : decode cX8_channel 34 = .ok (.aload_n 0, 1) := by decide +kernel
theorem dX8_channel_35 : decode cX8_channel 35 = .ok (.bipush 59, 2) := by decide +kernel
theorem dX8_channel_37 : decode cX8_channel 37 = .ok (.invokevirtual 152, 3) := by decide +kernel
theorem dX8_channel_40 : decode cX8_channel 40 = .ok (.ifCond .eq 7, 3) := by decide +kernel
theorem dX8_channel_43 : decode cX8_channel 43 = .ok (.iconst 1, 1) := by decide +kernel
theorem dX8_channel_44 : decode cX8_channel 44 = .ok (.goto 4, 3) := by decide +kernel
theorem dX8_channel_47 : decode cX8_channel 47 = .ok (.iconst 0, 1) := by decide +kernel
theorem dX8_channel_48 : decode cX8_channel 48 = .ok (.istore_n 2, 1) := by decide +kernel
theorem dX8_channel_49 : decode cX8_channel 49 = .ok (.goto (-35), 3) := by decide +kernel
theorem dX8_channel_52 : decode cX8_channel 52 = .ok (.aload_n 0, 1) := by decide +kernel
theorem dX8_channel_53 : decode cX8_channel 53 = .ok (.aload_n 0, 1) := by decide +kernel
theorem dX8_channel_54 : decode cX8_channel 54 = .ok (.getfield 136, 3) := by decide +kernel
theorem dX8_channel_57 : decode cX8_channel 57 = .ok (.ifCond .ne 10, 3) := by decide +kernel
theorem dX8_channel_60 : decode cX8_channel 60 = .ok (.aload_n 0, 1) := by decide +kernel
theorem dX8_channel_61 : decode cX8_channel 61 = .ok (.invokevirtual 140, 3) := by decide +kernel
theorem dX8_channel_64 : decode cX8_channel 64 = .ok (.ifCond .eq 7, 3) := by decide +kernel
theorem dX8_channel_67 : decode cX8_channel 67 = .ok (.iconst 1, 1) := by decide +kernel
theorem dX8_channel_68 : decode cX8_channel 68 = .ok (.goto 4, 3) := by decide +kernel
theorem dX8_channel_71 : decode cX8_channel 71 = .ok (.iconst 0, 1) := by decide +kernel
theorem dX8_channel_72 : decode cX8_channel 72 = .ok (.putfield 136, 3) := by decide +kernel
theorem dX8_channel_75 : decode cX8_channel 75 = .ok (.aload_n 0, 1) := by decide +kernel
theorem dX8_channel_76 : decode cX8_channel 76 = .ok (.iconst 0, 1) := by decide +kernel
theorem dX8_channel_77 : decode cX8_channel 77 = .ok (.putfield 130, 3) := by decide +kernel
theorem dX8_channel_80 : decode cX8_channel 80 = .ok (.aload_n 0, 1) := by decide +kernel
theorem dX8_channel_81 : decode cX8_channel 81 = .ok (.getfield 136, 3) := by decide +kernel
theorem dX8_channel_84 : decode cX8_channel 84 = .ok (.ifCond .eq 11, 3) := by decide +kernel
theorem dX8_channel_87 : decode cX8_channel 87 = .ok (.bipush (-20), 2) := by decide +kernel
theorem dX8_channel_89 : decode cX8_channel 89 = .ok (.aload_n 0, 1) := by decide +kernel
theorem dX8_channel_90 : decode cX8_channel 90 = .ok (.getfield 133, 3) := by decide +kernel
theorem dX8_channel_93 : decode cX8_channel 93 = .ok (.isub, 1) := by decide +kernel
theorem dX8_channel_94 : decode cX8_channel 94 = .ok (.ireturn, 1) := by decide +kernel
theorem dX8_channel_95 : decode cX8_channel 95 = .ok (.aload_n 0, 1) := by decide +kernel
theorem dX8_channel_96 : decode cX8_channel 96 = .ok (.iload_n 1, 1) := by decide +kernel
theorem dX8_channel_97 : decode cX8_channel 97 = .ok (.putfield 69, 3) := by decide +kernel
theorem dX8_channel_100 : decode cX8_channel 100 = .ok (.iconst 0, 1) := by decide +kernel
theorem dX8_channel_101 : decode cX8_channel 101 = .ok (.istore_n 3, 1) := by decide +kernel
theorem dX8_channel_102 : decode cX8_channel 102 = .ok (.iload_n 3, 1) := by decide +kernel
theorem dX8_channel_103 : decode cX8_channel 103 = .ok (.iload_n 1, 1) := by decide +kernel
theorem dX8_channel_104 : decode cX8_channel 104 = .ok (.if_icmp .ge 62, 3) := by decide +kernel
theorem dX8_channel_107 : decode cX8_channel 107 = .ok (.aload_n 0, 1) := by decide +kernel
theorem dX8_channel_108 : decode cX8_channel 108 = .ok (.iload_n 3, 1) := by decide +kernel
theorem dX8_channel_109 : decode cX8_channel 109 = .ok (.aload_n 0, 1) := by decide +kernel
theorem dX8_channel_110 : decode cX8_channel 110 = .ok (.getfield 25, 3) := by decide +kernel
theorem dX8_channel_113 : decode cX8_channel 113 = .ok (.iconst 5, 1) := by decide +kernel
theorem dX8_channel_114 : decode cX8_channel 114 = .ok (.iload_n 3, 1) := by decide +kernel
theorem dX8_channel_115 : decode cX8_channel 115 = .ok (.imul, 1) := by decide +kernel
theorem dX8_channel_116 : decode cX8_channel 116 = .ok (.iaload, 1) := by decide +kernel
theorem dX8_channel_117 : decode cX8_channel 117 = .ok (.aload_n 0, 1) := by decide +kernel
theorem dX8_channel_118 : decode cX8_channel 118 = .ok (.getfield 25, 3) := by decide +kernel
theorem dX8_channel_121 : decode cX8_channel 121 = .ok (.iconst 5, 1) := by decide +kernel
theorem dX8_channel_122 : decode cX8_channel 122 = .ok (.iload_n 3, 1) := by decide +kernel
theorem dX8_channel_123 : decode cX8_channel 123 = .ok (.imul, 1) := by decide +kernel
theorem dX8_channel_124 : decode cX8_channel 124 = .ok (.iconst 1, 1) := by decide +kernel
theorem dX8_channel_125 : decode cX8_channel 125 = .ok (.iadd, 1) := by decide +kernel
theorem dX8_channel_126 : decode cX8_channel 126 = .ok (.iaload, 1) := by decide +kernel
theorem dX8_channel_127 : decode cX8_channel 127 = .ok (.aload_n 0, 1) := by decide +kernel
theorem dX8_channel_128 : decode cX8_channel 128 = .ok (.getfield 25, 3) := by decide +kernel
theorem dX8_channel_131 : decode cX8_channel 131 = .ok (.iconst 5, 1) := by decide +kernel
theorem dX8_channel_132 : decode cX8_channel 132 = .ok (.iload_n 3, 1) := by decide +kernel
theorem dX8_channel_133 : decode cX8_channel 133 = .ok (.imul, 1) := by decide +kernel
theorem dX8_channel_134 : decode cX8_channel 134 = .ok (.iconst 2, 1) := by decide +kernel
theorem dX8_channel_135 : decode cX8_channel 135 = .ok (.iadd, 1) := by decide +kernel
theorem dX8_channel_136 : decode cX8_channel 136 = .ok (.iaload, 1) := by decide +kernel
theorem dX8_channel_137 : decode cX8_channel 137 = .ok (.aload_n 0, 1) := by decide +kernel
theorem dX8_channel_138 : decode cX8_channel 138 = .ok (.getfield 25, 3) := by decide +kernel
theorem dX8_channel_141 : decode cX8_channel 141 = .ok (.iconst 5, 1) := by decide +kernel
theorem dX8_channel_142 : decode cX8_channel 142 = .ok (.iload_n 3, 1) := by decide +kernel
theorem dX8_channel_143 : decode cX8_channel 143 = .ok (.imul, 1) := by decide +kernel
theorem dX8_channel_144 : decode cX8_channel 144 = .ok (.iconst 3, 1) := by decide +kernel
theorem dX8_channel_145 : decode cX8_channel 145 = .ok (.iadd, 1) := by decide +kernel
theorem dX8_channel_146 : decode cX8_channel 146 = .ok (.iaload, 1) := by decide +kernel
theorem dX8_channel_147 : decode cX8_channel 147 = .ok (.aload_n 0, 1) := by decide +kernel
theorem dX8_channel_148 : decode cX8_channel 148 = .ok (.getfield 25, 3) := by decide +kernel
theorem dX8_channel_151 : decode cX8_channel 151 = .ok (.iconst 5, 1) := by decide +kernel
theorem dX8_channel_152 : decode cX8_channel 152 = .ok (.iload_n 3, 1) := by decide +kernel
theorem dX8_channel_153 : decode cX8_channel 153 = .ok (.imul, 1) := by decide +kernel
theorem dX8_channel_154 : decode cX8_channel 154 = .ok (.iconst 4, 1) := by decide +kernel
theorem dX8_channel_155 : decode cX8_channel 155 = .ok (.iadd, 1) := by decide +kernel
theorem dX8_channel_156 : decode cX8_channel 156 = .ok (.iaload, 1) := by decide +kernel
theorem dX8_channel_157 : decode cX8_channel 157 = .ok (.invokevirtual 100, 3) := by decide +kernel
theorem dX8_channel_160 : decode cX8_channel 160 = .ok (.iinc 3 1, 3) := by decide +kernel
theorem dX8_channel_163 : decode cX8_channel 163 = .ok (.goto (-61), 3) := by decide +kernel
theorem dX8_channel_166 : decode cX8_channel 166 = .ok (.iload_n 1, 1) := by decide +kernel
theorem dX8_channel_167 : decode cX8_channel 167 = .ok (.ireturn, 1) := by decide +kernel
theorem dX8_tides_0 : decode cX8_tides 0 = .ok (.aload_n 0, 1) := by decide +kernel
theorem dX8_tides_1 : decode cX8_tides 1 = .ok (.iconst 0, 1) := by decide +kernel
theorem dX8_tides_2 : decode cX8_tides 2 = .ok (.putfield 133, 3) := by decide +kernel
theorem dX8_tides_5 : decode cX8_tides 5 = .ok (.aload_n 0, 1) := by decide +kernel
theorem dX8_tides_6 : decode cX8_tides 6 = .ok (.iconst 0, 1) := by decide +kernel
theorem dX8_tides_7 : decode cX8_tides 7 = .ok (.putfield 136, 3) := by decide +kernel
theorem dX8_tides_10 : decode cX8_tides 10 = .ok (.iconst 0, 1) := by decide +kernel
theorem dX8_tides_11 : decode cX8_tides 11 = .ok (.istore_n 1, 1) := by decide +kernel
theorem dX8_tides_12 : decode cX8_tides 12 = .ok (.iload_n 1, 1) := by decide +kernel
theorem dX8_tides_13 : decode cX8_tides 13 = .ok (.bipush 24, 2) := by decide +kernel
theorem dX8_tides_15 : decode cX8_tides 15 = .ok (.if_icmp .ge 51, 3) := by decide +kernel
theorem dX8_tides_18 : decode cX8_tides 18 = .ok (.aload_n 0, 1) := by decide +kernel
theorem dX8_tides_19 : decode cX8_tides 19 = .ok (.aload_n 0, 1) := by decide +kernel
theorem dX8_tides_20 : decode cX8_tides 20 = .ok (.getfield 136, 3) := by decide +kernel
theorem dX8_tides_23 : decode cX8_tides 23 = .ok (.ifCond .ne 16, 3) := by decide +kernel
theorem dX8_tides_26 : decode cX8_tides 26 = .ok (.iload_n 1, 1) := by decide +kernel
theorem dX8_tides_27 : decode cX8_tides 27 = .ok (.ifCond .le 16, 3) := by decide +kernel
theorem dX8_tides_30 : decode cX8_tides 30 = .ok (.aload_n 0, 1) := by decide +kernel
theorem dX8_tides_31 : decode cX8_tides 31 = .ok (.bipush 44, 2) := by decide +kernel
theorem dX8_tides_33 : decode cX8_tides 33 = .ok (.invokevirtual 152, 3) := by decide +kernel
theorem dX8_tides_36 : decode cX8_tides 36 = .ok (.ifCond .ne 7, 3) := by decide +kernel
theorem dX8_tides_39 : decode cX8_tides 39 = .ok (.iconst 1, 1) := by decide +kernel
theorem dX8_tides_40 : decode cX8_tides 40 = .ok (.goto 4, 3) := by decide +kernel
theorem dX8_tides_43 : decode cX8_tides 43 = .ok (.iconst 0, 1) := by decide +kernel
theorem dX8_tides_44 : decode cX8_tides 44 = .ok (.putfield 136, 3) := by decide +kernel
theorem dX8_tides_47 : decode cX8_tides 47 = .ok (.aload_n 0, 1) := by decide +kernel
theorem dX8_tides_48 : decode cX8_tides 48 = .ok (.getfield 25, 3) := by decide +kernel
theorem dX8_tides_51 : decode cX8_tides 51 = .ok (.iload_n 1, 1) := by decide +kernel
theorem dX8_tides_52 : decode cX8_tides 52 = .ok (.aload_n 0, 1) := by decide +kernel
theorem dX8_tides_53 : decode cX8_tides 53 = .ok (.iconst 0, 1) := by decide +kernel
theorem dX8_tides_54 : decode cX8_tides 54 = .ok (.bipush 99, 2) := by decide +kernel
theorem dX8_tides_56 : decode cX8_tides 56 = .ok (.invokevirtual 148, 3) := by decide +kernel
theorem dX8_tides_59 : decode cX8_tides 59 = .ok (.iastore, 1) := by decide +kernel
theorem dX8_tides_60 : decode cX8_tides 60 = .ok (.iinc 1 1, 3) := by decide +kernel
theorem dX8_tides_63 : decode cX8_tides 63 = .ok (.goto (-51), 3) := by decide +kernel
theorem dX8_tides_66 : decode cX8_tides 66 = .ok (.aload_n 0, 1) := by decide +kernel
theorem dX8_tides_67 : decode cX8_tides 67 = .ok (.aload_n 0, 1) := by decide +kernel
theorem dX8_tides_68 : decode cX8_tides 68 = .ok (.getfield 136, 3) := by decide +kernel
theorem dX8_tides_71 : decode cX8_tides 71 = .ok (.ifCond .ne 10, 3) := by decide +kernel
theorem dX8_tides_74 : decode cX8_tides 74 = .ok (.aload_n 0, 1) := by decide +kernel
theorem dX8_tides_75 : decode cX8_tides 75 = .ok (.invokevirtual 140, 3) := by decide +kernel
theorem dX8_tides_78 : decode cX8_tides 78 = .ok (.ifCond .eq 7, 3) := by decide +kernel
theorem dX8_tides_81 : decode cX8_tides 81 = .ok (.iconst 1, 1) := by decide +kernel
theorem dX8_tides_82 : decode cX8_tides 82 = .ok (.goto 4, 3) := by decide +kernel
theorem dX8_tides_85 : decode cX8_tides 85 = .ok (.iconst 0, 1) := by decide +kernel
theorem dX8_tides_86 : decode cX8_tides 86 = .ok (.putfield 136, 3) := by decide +kernel
theorem dX8_tides_89 : decode cX8_tides 89 = .ok (.aload_n 0, 1) := by decide +kernel
theorem dX8_tides_90 : decode cX8_tides 90 = .ok (.iconst 0, 1) := by decide +kernel
theorem dX8_tides_91 : decode cX8_tides 91 = .ok (.putfield 130, 3) := by decide +kernel
theorem dX8_tides_94 : decode cX8_tides 94 = .ok (.aload_n 0, 1) := by decide +kernel
theorem dX8_tides_95 : decode cX8_tides 95 = .ok (.getfield 136, 3) := by decide +kernel
theorem dX8_tides_98 : decode cX8_tides 98 = .ok (.ifCond .eq 11, 3) := by decide +kernel
theorem dX8_tides_101 : decode cX8_tides 101 = .ok (.bipush (-20), 2) := by decide +kernel
theorem dX8_tides_103 : decode cX8_tides 103 = .ok (.aload_n 0, 1) := by decide +kernel
theorem dX8_tides_104 : decode cX8_tides 104 = .ok (.getfield 133, 3) := by decide +kernel
theorem dX8_tides_107 : decode cX8_tides 107 = .ok (.isub, 1) := by decide +kernel
theorem dX8_tides_108 : decode cX8_tides 108 = .ok (.ireturn, 1) := by decide +kernel
theorem dX8_tides_109 : decode cX8_tides 109 = .ok (.iconst 0, 1) := by decide +kernel
theorem dX8_tides_110 : decode cX8_tides 110 = .ok (.istore_n 1, 1) := by decide +kernel
theorem dX8_tides_111 : decode cX8_tides 111 = .ok (.iconst 0, 1) := by decide +kernel
theorem dX8_tides_112 : decode cX8_tides 112 = .ok (.istore_n 2, 1) := by decide +kernel
theorem dX8_tides_113 : decode cX8_tides 113 = .ok (.iload_n 2, 1) := by decide +kernel
theorem dX8_tides_114 : decode cX8_tides 114 = .ok (.bipush 24, 2) := by decide +kernel
theorem dX8_tides_116 : decode cX8_tides 116 = .ok (.if_icmp .ge 42, 3) := by decide +kernel
theorem dX8_tides_119 : decode cX8_tides 119 = .ok (.aload_n 0, 1) := by decide +kernel
theorem dX8_tides_120 : decode cX8_tides 120 = .ok (.getfield 13, 3) := by decide +kernel
theorem dX8_tides_123 : decode cX8_tides 123 = .ok (.iload_n 2, 1) := by decide +kernel
theorem dX8_tides_124 : decode cX8_tides 124 = .ok (.aload_n 0, 1) := by decide +kernel
theorem dX8_tides_125 : decode cX8_tides 125 = .ok (.getfield 25, 3) := by decide +kernel
theorem dX8_tides_128 : decode cX8_tides 128 = .ok (.iload_n 2, 1) := by decide +kernel
theorem dX8_tides_129 : decode cX8_tides 129 = .ok (.iaload, 1) := by decide +kernel
theorem dX8_tides_130 : decode cX8_tides 130 = .ok (.iastore, 1) := by decide +kernel
theorem dX8_tides_131 : decode cX8_tides 131 = .ok (.aload_n 0, 1) := by decide +kernel
theorem dX8_tides_132 : decode cX8_tides 132 = .ok (.getfield 25, 3) := by decide +kernel
theorem dX8_tides_135 : decode cX8_tides 135 = .ok (.iload_n 2, 1) := by decide +kernel
theorem dX8_tides_136 : decode cX8_tides 136 = .ok (.iaload, 1) := by decide +kernel
theorem dX8_tides_137 : decode cX8_tides 137 = .ok (.iload_n 1, 1) := by decide +kernel
theorem dX8_tides_138 : decode cX8_tides 138 = .ok (.if_icmp .le 12, 3) := by decide +kernel
theorem dX8_tides_141 : decode cX8_tides 141 = .ok (.aload_n 0, 1) := by decide +kernel
theorem dX8_tides_142 : decode cX8_tides 142 = .ok (.getfield 25, 3) := by decide +kernel
theorem dX8_tides_145 : decode cX8_tides 145 = .ok (.iload_n 2, 1) := by decide +kernel
theorem dX8_tides_146 : decode cX8_tides 146 = .ok (.iaload, 1) := by decide +kernel
theorem dX8_tides_147 : decode cX8_tides 147 = .ok (.goto 4, 3) := by decide +kernel
theorem dX8_tides_150 : decode cX8_tides 150 = .ok (.iload_n 1, 1) := by decide +kernel
theorem dX8_tides_151 : decode cX8_tides 151 = .ok (.istore_n 1, 1) := by decide +kernel
theorem dX8_tides_152 : decode cX8_tides 152 = .ok (.iinc 2 1, 3) := by decide +kernel
theorem dX8_tides_155 : decode cX8_tides 155 = .ok (.goto (-42), 3) := by decide +kernel
theorem dX8_tides_158 : decode cX8_tides 158 = .ok (.iload_n 1, 1) := by decide +kernel
theorem dX8_tides_159 : decode cX8_tides 159 = .ok (.ireturn, 1) := by decide +kernel
theorem dX8_count_0 : decode cX8_count 0 = .ok (.iconst 0, 1) := by decide +kernel
theorem dX8_count_1 : decode cX8_count 1 = .ok (.istore_n 2, 1) := by decide +kernel
theorem dX8_count_2 : decode cX8_count 2 = .ok (.iconst 0, 1) := by decide +kernel
theorem dX8_count_3 : decode cX8_count 3 = .ok (.istore_n 3, 1) := by decide +kernel
theorem dX8_count_4 : decode cX8_count 4 = .ok (.iload_n 3, 1) := by decide +kernel
theorem dX8_count_5 : decode cX8_count 5 = .ok (.aload_n 0, 1) := by decide +kernel
theorem dX8_count_6 : decode cX8_count 6 = .ok (.getfield 69, 3) := by decide +kernel
theorem dX8_count_9 : decode cX8_count 9 = .ok (.if_icmp .ge 23, 3) := by decide +kernel
theorem dX8_count_12 : decode cX8_count 12 = .ok (.iload_n 2, 1) := by decide +kernel
theorem dX8_count_13 : decode cX8_count 13 = .ok (.aload_n 0, 1) := by decide +kernel
theorem dX8_count_14 : decode cX8_count 14 = .ok (.getfield 7, 3) := by decide +kernel
theorem dX8_count_17 : decode cX8_count 17 = .ok (.bipush 6, 2) := by decide +kernel
theorem dX8_count_19 : decode cX8_count 19 = .ok (.iload_n 3, 1) := by decide +kernel
theorem dX8_count_20 : decode cX8_count 20 = .ok (.imul, 1) := by decide +kernel
theorem dX8_count_21 : decode cX8_count 21 = .ok (.iconst 1, 1) := by decide +kernel
theorem dX8_count_22 : decode cX8_count 22 = .ok (.iadd, 1) := by decide +kernel
theorem dX8_count_23 : decode cX8_count 23 = .ok (.iaload, 1) := by decide +kernel
theorem dX8_count_24 : decode cX8_count 24 = .ok (.iadd, 1) := by decide +kernel
theorem dX8_count_25 : decode cX8_count 25 = .ok (.istore_n 2, 1) := by decide +kernel
theorem dX8_count_26 : decode cX8_count 26 = .ok (.iinc 3 1, 3) := by decide +kernel
theorem dX8_count_29 : decode cX8_count 29 = .ok (.goto (-25), 3) := by decide +kernel
theorem dX8_count_32 : decode cX8_count 32 = .ok (.iload_n 1, 1) := by decide +kernel
theorem dX8_count_33 : decode cX8_count 33 = .ok (.ifCond .ne 10, 3) := by decide +kernel
theorem dX8_count_36 : decode cX8_count 36 = .ok (.aload_n 0, 1) := by decide +kernel
theorem dX8_count_37 : decode cX8_count 37 = .ok (.getfield 69, 3) := by decide +kernel
theorem dX8_count_40 : decode cX8_count 40 = .ok (.goto 25, 3) := by decide +kernel
theorem dX8_count_43 : decode cX8_count 43 = .ok (.iload_n 1, 1) := by decide +kernel
theorem dX8_count_44 : decode cX8_count 44 = .ok (.iconst 1, 1) := by decide +kernel
theorem dX8_count_45 : decode cX8_count 45 = .ok (.if_icmp .ne 10, 3) := by decide +kernel
theorem dX8_count_48 : decode cX8_count 48 = .ok (.aload_n 0, 1) := by decide +kernel
theorem dX8_count_49 : decode cX8_count 49 = .ok (.getfield 77, 3) := by decide +kernel
theorem dX8_count_52 : decode cX8_count 52 = .ok (.goto 13, 3) := by decide +kernel
theorem dX8_count_55 : decode cX8_count 55 = .ok (.iload_n 1, 1) := by decide +kernel
theorem dX8_count_56 : decode cX8_count 56 = .ok (.iconst 2, 1) := by decide +kernel
theorem dX8_count_57 : decode cX8_count 57 = .ok (.if_icmp .ne 7, 3) := by decide +kernel
theorem dX8_count_60 : decode cX8_count 60 = .ok (.iload_n 2, 1) := by decide +kernel
theorem dX8_count_61 : decode cX8_count 61 = .ok (.goto 4, 3) := by decide +kernel
theorem dX8_count_64 : decode cX8_count 64 = .ok (.iconst (-1), 1) := by decide +kernel
theorem dX8_count_65 : decode cX8_count 65 = .ok (.ireturn, 1) := by decide +kernel
theorem dX8_tideAt_0 : decode cX8_tideAt 0 = .ok (.iload_n 1, 1) := by decide +kernel
theorem dX8_tideAt_1 : decode cX8_tideAt 1 = .ok (.aload_n 0, 1) := by decide +kernel
theorem dX8_tideAt_2 : decode cX8_tideAt 2 = .ok (.getfield 16, 3) := by decide +kernel
theorem dX8_tideAt_5 : decode cX8_tideAt 5 = .ok (.iconst 0, 1) := by decide +kernel
theorem dX8_tideAt_6 : decode cX8_tideAt 6 = .ok (.iaload, 1) := by decide +kernel
theorem dX8_tideAt_7 : decode cX8_tideAt 7 = .ok (.isub, 1) := by decide +kernel
theorem dX8_tideAt_8 : decode cX8_tideAt 8 = .ok (.sipush 1440, 3) := by decide +kernel
theorem dX8_tideAt_11 : decode cX8_tideAt 11 = .ok (.irem, 1) := by decide +kernel
theorem dX8_tideAt_12 : decode cX8_tideAt 12 = .ok (.istore_n 2, 1) := by decide +kernel
theorem dX8_tideAt_13 : decode cX8_tideAt 13 = .ok (.iload_n 2, 1) := by decide +kernel
theorem dX8_tideAt_14 : decode cX8_tideAt 14 = .ok (.iload_n 2, 1) := by decide +kernel
theorem dX8_tideAt_15 : decode cX8_tideAt 15 = .ok (.ifCond .ge 9, 3) := by decide +kernel
theorem dX8_tideAt_18 : decode cX8_tideAt 18 = .ok (.sipush 1440, 3) := by decide +kernel
theorem dX8_tideAt_21 : decode cX8_tideAt 21 = .ok (.goto 4, 3) := by decide +kernel
theorem dX8_tideAt_24 : decode cX8_tideAt 24 = .ok (.iconst 0, 1) := by decide +kernel
theorem dX8_tideAt_25 : decode cX8_tideAt 25 = .ok (.iadd, 1) := by decide +kernel
theorem dX8_tideAt_26 : decode cX8_tideAt 26 = .ok (.istore_n 2, 1) := by decide +kernel
theorem dX8_tideAt_27 : decode cX8_tideAt 27 = .ok (.iload_n 2, 1) := by decide +kernel
theorem dX8_tideAt_28 : decode cX8_tideAt 28 = .ok (.bipush 60, 2) := by decide +kernel
theorem dX8_tideAt_30 : decode cX8_tideAt 30 = .ok (.idiv, 1) := by decide +kernel
theorem dX8_tideAt_31 : decode cX8_tideAt 31 = .ok (.istore_n 3, 1) := by decide +kernel
theorem dX8_tideAt_32 : decode cX8_tideAt 32 = .ok (.aload_n 0, 1) := by decide +kernel
theorem dX8_tideAt_33 : decode cX8_tideAt 33 = .ok (.getfield 13, 3) := by decide +kernel
theorem dX8_tideAt_36 : decode cX8_tideAt 36 = .ok (.iload_n 3, 1) := by decide +kernel
theorem dX8_tideAt_37 : decode cX8_tideAt 37 = .ok (.iaload, 1) := by decide +kernel
theorem dX8_tideAt_38 : decode cX8_tideAt 38 = .ok (.aload_n 0, 1) := by decide +kernel
theorem dX8_tideAt_39 : decode cX8_tideAt 39 = .ok (.getfield 13, 3) := by decide +kernel
theorem dX8_tideAt_42 : decode cX8_tideAt 42 = .ok (.iload_n 3, 1) := by decide +kernel
theorem dX8_tideAt_43 : decode cX8_tideAt 43 = .ok (.iconst 1, 1) := by decide +kernel
theorem dX8_tideAt_44 : decode cX8_tideAt 44 = .ok (.iadd, 1) := by decide +kernel
theorem dX8_tideAt_45 : decode cX8_tideAt 45 = .ok (.bipush 24, 2) := by decide +kernel
theorem dX8_tideAt_47 : decode cX8_tideAt 47 = .ok (.irem, 1) := by decide +kernel
theorem dX8_tideAt_48 : decode cX8_tideAt 48 = .ok (.iaload, 1) := by decide +kernel
theorem dX8_tideAt_49 : decode cX8_tideAt 49 = .ok (.aload_n 0, 1) := by decide +kernel
theorem dX8_tideAt_50 : decode cX8_tideAt 50 = .ok (.getfield 13, 3) := by decide +kernel
theorem dX8_tideAt_53 : decode cX8_tideAt 53 = .ok (.iload_n 3, 1) := by decide +kernel
theorem dX8_tideAt_54 : decode cX8_tideAt 54 = .ok (.iaload, 1) := by decide +kernel
theorem dX8_tideAt_55 : decode cX8_tideAt 55 = .ok (.isub, 1) := by decide +kernel
theorem dX8_tideAt_56 : decode cX8_tideAt 56 = .ok (.iload_n 2, 1) := by decide +kernel
theorem dX8_tideAt_57 : decode cX8_tideAt 57 = .ok (.bipush 60, 2) := by decide +kernel
theorem dX8_tideAt_59 : decode cX8_tideAt 59 = .ok (.irem, 1) := by decide +kernel
theorem dX8_tideAt_60 : decode cX8_tideAt 60 = .ok (.imul, 1) := by decide +kernel
theorem dX8_tideAt_61 : decode cX8_tideAt 61 = .ok (.bipush 60, 2) := by decide +kernel
theorem dX8_tideAt_63 : decode cX8_tideAt 63 = .ok (.idiv, 1) := by decide +kernel
theorem dX8_tideAt_64 : decode cX8_tideAt 64 = .ok (.iadd, 1) := by decide +kernel
theorem dX8_tideAt_65 : decode cX8_tideAt 65 = .ok (.ireturn, 1) := by decide +kernel
theorem dX8_waterAt_0 : decode cX8_waterAt 0 = .ok (.aload_n 0, 1) := by decide +kernel
theorem dX8_waterAt_1 : decode cX8_waterAt 1 = .ok (.getfield 7, 3) := by decide +kernel
theorem dX8_waterAt_4 : decode cX8_waterAt 4 = .ok (.bipush 6, 2) := by decide +kernel
theorem dX8_waterAt_6 : decode cX8_waterAt 6 = .ok (.iload_n 1, 1) := by decide +kernel
theorem dX8_waterAt_7 : decode cX8_waterAt 7 = .ok (.imul, 1) := by decide +kernel
theorem dX8_waterAt_8 : decode cX8_waterAt 8 = .ok (.iaload, 1) := by decide +kernel
theorem dX8_waterAt_9 : decode cX8_waterAt 9 = .ok (.aload_n 0, 1) := by decide +kernel
theorem dX8_waterAt_10 : decode cX8_waterAt 10 = .ok (.getfield 7, 3) := by decide +kernel
theorem dX8_waterAt_13 : decode cX8_waterAt 13 = .ok (.bipush 6, 2) := by decide +kernel
theorem dX8_waterAt_15 : decode cX8_waterAt 15 = .ok (.iload_n 1, 1) := by decide +kernel
theorem dX8_waterAt_16 : decode cX8_waterAt 16 = .ok (.imul, 1) := by decide +kernel
theorem dX8_waterAt_17 : decode cX8_waterAt 17 = .ok (.iconst 3, 1) := by decide +kernel
theorem dX8_waterAt_18 : decode cX8_waterAt 18 = .ok (.iadd, 1) := by decide +kernel
theorem dX8_waterAt_19 : decode cX8_waterAt 19 = .ok (.iaload, 1) := by decide +kernel
theorem dX8_waterAt_20 : decode cX8_waterAt 20 = .ok (.aload_n 0, 1) := by decide +kernel
theorem dX8_waterAt_21 : decode cX8_waterAt 21 = .ok (.getfield 16, 3) := by decide +kernel
theorem dX8_waterAt_24 : decode cX8_waterAt 24 = .ok (.iconst 2, 1) := by decide +kernel
theorem dX8_waterAt_25 : decode cX8_waterAt 25 = .ok (.iaload, 1) := by decide +kernel
theorem dX8_waterAt_26 : decode cX8_waterAt 26 = .ok (.imul, 1) := by decide +kernel
theorem dX8_waterAt_27 : decode cX8_waterAt 27 = .ok (.bipush 10, 2) := by decide +kernel
theorem dX8_waterAt_29 : decode cX8_waterAt 29 = .ok (.idiv, 1) := by decide +kernel
theorem dX8_waterAt_30 : decode cX8_waterAt 30 = .ok (.iadd, 1) := by decide +kernel
theorem dX8_waterAt_31 : decode cX8_waterAt 31 = .ok (.aload_n 0, 1) := by decide +kernel
theorem dX8_waterAt_32 : decode cX8_waterAt 32 = .ok (.iload_n 2, 1) := by decide +kernel
theorem dX8_waterAt_33 : decode cX8_waterAt 33 = .ok (.invokevirtual 162, 3) := by decide +kernel
theorem dX8_waterAt_36 : decode cX8_waterAt 36 = .ok (.iadd, 1) := by decide +kernel
theorem dX8_waterAt_37 : decode cX8_waterAt 37 = .ok (.iconst 2, 1) := by decide +kernel
theorem dX8_waterAt_38 : decode cX8_waterAt 38 = .ok (.aload_n 0, 1) := by decide +kernel
theorem dX8_waterAt_39 : decode cX8_waterAt 39 = .ok (.getfield 16, 3) := by decide +kernel
theorem dX8_waterAt_42 : decode cX8_waterAt 42 = .ok (.iconst 1, 1) := by decide +kernel
theorem dX8_waterAt_43 : decode cX8_waterAt 43 = .ok (.iaload, 1) := by decide +kernel
theorem dX8_waterAt_44 : decode cX8_waterAt 44 = .ok (.imul, 1) := by decide +kernel
theorem dX8_waterAt_45 : decode cX8_waterAt 45 = .ok (.isub, 1) := by decide +kernel
theorem dX8_waterAt_46 : decode cX8_waterAt 46 = .ok (.ireturn, 1) := by decide +kernel
theorem dX8_sinksBy_0 : decode cX8_sinksBy 0 = .ok (.iload_n 3, 1) := by decide +kernel
theorem dX8_sinksBy_1 : decode cX8_sinksBy 1 = .ok (.iconst 1, 1) := by decide +kernel
theorem dX8_sinksBy_2 : decode cX8_sinksBy 2 = .ok (.if_icmp .ge 7, 3) := by decide +kernel
theorem dX8_sinksBy_5 : decode cX8_sinksBy 5 = .ok (.iconst 1, 1) := by decide +kernel
theorem dX8_sinksBy_6 : decode cX8_sinksBy 6 = .ok (.goto 4, 3) := by decide +kernel
theorem dX8_sinksBy_9 : decode cX8_sinksBy 9 = .ok (.iload_n 3, 1) := by decide +kernel
theorem dX8_sinksBy_10 : decode cX8_sinksBy 10 = .ok (.istore 5, 2) := by decide +kernel
theorem dX8_sinksBy_12 : decode cX8_sinksBy 12 = .ok (.iload 4, 2) := by decide +kernel
theorem dX8_sinksBy_14 : decode cX8_sinksBy 14 = .ok (.iload 4, 2) := by decide +kernel
theorem dX8_sinksBy_16 : decode cX8_sinksBy 16 = .ok (.imul, 1) := by decide +kernel
theorem dX8_sinksBy_17 : decode cX8_sinksBy 17 = .ok (.aload_n 0, 1) := by decide +kernel
theorem dX8_sinksBy_18 : decode cX8_sinksBy 18 = .ok (.getfield 19, 3) := by decide +kernel
theorem dX8_sinksBy_21 : decode cX8_sinksBy 21 = .ok (.iconst 3, 1) := by decide +kernel
theorem dX8_sinksBy_22 : decode cX8_sinksBy 22 = .ok (.iload_n 1, 1) := by decide +kernel
theorem dX8_sinksBy_23 : decode cX8_sinksBy 23 = .ok (.imul, 1) := by decide +kernel
theorem dX8_sinksBy_24 : decode cX8_sinksBy 24 = .ok (.iconst 1, 1) := by decide +kernel
theorem dX8_sinksBy_25 : decode cX8_sinksBy 25 = .ok (.iadd, 1) := by decide +kernel
theorem dX8_sinksBy_26 : decode cX8_sinksBy 26 = .ok (.iaload, 1) := by decide +kernel
theorem dX8_sinksBy_27 : decode cX8_sinksBy 27 = .ok (.imul, 1) := by decide +kernel
theorem dX8_sinksBy_28 : decode cX8_sinksBy 28 = .ok (.aload_n 0, 1) := by decide +kernel
theorem dX8_sinksBy_29 : decode cX8_sinksBy 29 = .ok (.getfield 19, 3) := by decide +kernel
theorem dX8_sinksBy_32 : decode cX8_sinksBy 32 = .ok (.iconst 3, 1) := by decide +kernel
theorem dX8_sinksBy_33 : decode cX8_sinksBy 33 = .ok (.iload_n 1, 1) := by decide +kernel
theorem dX8_sinksBy_34 : decode cX8_sinksBy 34 = .ok (.imul, 1) := by decide +kernel
theorem dX8_sinksBy_35 : decode cX8_sinksBy 35 = .ok (.iaload, 1) := by decide +kernel
theorem dX8_sinksBy_36 : decode cX8_sinksBy 36 = .ok (.imul, 1) := by decide +kernel
theorem dX8_sinksBy_37 : decode cX8_sinksBy 37 = .ok (.iconst 3, 1) := by decide +kernel
theorem dX8_sinksBy_38 : decode cX8_sinksBy 38 = .ok (.aload_n 0, 1) := by decide +kernel
theorem dX8_sinksBy_39 : decode cX8_sinksBy 39 = .ok (.getfield 7, 3) := by decide +kernel
theorem dX8_sinksBy_42 : decode cX8_sinksBy 42 = .ok (.bipush 6, 2) := by decide +kernel
theorem dX8_sinksBy_44 : decode cX8_sinksBy 44 = .ok (.iload_n 2, 1) := by decide +kernel
theorem dX8_sinksBy_45 : decode cX8_sinksBy 45 = .ok (.imul, 1) := by decide +kernel
theorem dX8_sinksBy_46 : decode cX8_sinksBy 46 = .ok (.iconst 1, 1) := by decide +kernel
theorem dX8_sinksBy_47 : decode cX8_sinksBy 47 = .ok (.iadd, 1) := by decide +kernel
theorem dX8_sinksBy_48 : decode cX8_sinksBy 48 = .ok (.iaload, 1) := by decide +kernel
theorem dX8_sinksBy_49 : decode cX8_sinksBy 49 = .ok (.imul, 1) := by decide +kernel
theorem dX8_sinksBy_50 : decode cX8_sinksBy 50 = .ok (.iload 5, 2) := by decide +kernel
theorem dX8_sinksBy_52 : decode cX8_sinksBy 52 = .ok (.imul, 1) := by decide +kernel
theorem dX8_sinksBy_53 : decode cX8_sinksBy 53 = .ok (.idiv, 1) := by decide +kernel
theorem dX8_sinksBy_54 : decode cX8_sinksBy 54 = .ok (.ireturn, 1) := by decide +kernel
theorem dX8_underBy_0 : decode cX8_underBy 0 = .ok (.aload_n 0, 1) := by decide +kernel
theorem dX8_underBy_1 : decode cX8_underBy 1 = .ok (.getfield 19, 3) := by decide +kernel
theorem dX8_underBy_4 : decode cX8_underBy 4 = .ok (.iconst 3, 1) := by decide +kernel
theorem dX8_underBy_5 : decode cX8_underBy 5 = .ok (.iload_n 1, 1) := by decide +kernel
theorem dX8_underBy_6 : decode cX8_underBy 6 = .ok (.imul, 1) := by decide +kernel
theorem dX8_underBy_7 : decode cX8_underBy 7 = .ok (.iaload, 1) := by decide +kernel
theorem dX8_underBy_8 : decode cX8_underBy 8 = .ok (.istore 5, 2) := by decide +kernel
theorem dX8_underBy_10 : decode cX8_underBy 10 = .ok (.iload_n 3, 1) := by decide +kernel
theorem dX8_underBy_11 : decode cX8_underBy 11 = .ok (.iload 5, 2) := by decide +kernel
theorem dX8_underBy_13 : decode cX8_underBy 13 = .ok (.isub, 1) := by decide +kernel
theorem dX8_underBy_14 : decode cX8_underBy 14 = .ok (.iload 5, 2) := by decide +kernel
theorem dX8_underBy_16 : decode cX8_underBy 16 = .ok (.bipush 9, 2) := by decide +kernel
theorem dX8_underBy_18 : decode cX8_underBy 18 = .ok (.aload_n 0, 1) := by decide +kernel
theorem dX8_underBy_19 : decode cX8_underBy 19 = .ok (.getfield 7, 3) := by decide +kernel
theorem dX8_underBy_22 : decode cX8_underBy 22 = .ok (.bipush 6, 2) := by decide +kernel
theorem dX8_underBy_24 : decode cX8_underBy 24 = .ok (.iload_n 2, 1) := by decide +kernel
theorem dX8_underBy_25 : decode cX8_underBy 25 = .ok (.imul, 1) := by decide +kernel
theorem dX8_underBy_26 : decode cX8_underBy 26 = .ok (.iconst 2, 1) := by decide +kernel
theorem dX8_underBy_27 : decode cX8_underBy 27 = .ok (.iadd, 1) := by decide +kernel
theorem dX8_underBy_28 : decode cX8_underBy 28 = .ok (.iaload, 1) := by decide +kernel
theorem dX8_underBy_29 : decode cX8_underBy 29 = .ok (.isub, 1) := by decide +kernel
theorem dX8_underBy_30 : decode cX8_underBy 30 = .ok (.imul, 1) := by decide +kernel
theorem dX8_underBy_31 : decode cX8_underBy 31 = .ok (.sipush 400, 3) := by decide +kernel
theorem dX8_underBy_34 : decode cX8_underBy 34 = .ok (.idiv, 1) := by decide +kernel
theorem dX8_underBy_35 : decode cX8_underBy 35 = .ok (.isub, 1) := by decide +kernel
theorem dX8_underBy_36 : decode cX8_underBy 36 = .ok (.aload_n 0, 1) := by decide +kernel
theorem dX8_underBy_37 : decode cX8_underBy 37 = .ok (.iload_n 1, 1) := by decide +kernel
theorem dX8_underBy_38 : decode cX8_underBy 38 = .ok (.iload_n 2, 1) := by decide +kernel
theorem dX8_underBy_39 : decode cX8_underBy 39 = .ok (.iload_n 3, 1) := by decide +kernel
theorem dX8_underBy_40 : decode cX8_underBy 40 = .ok (.iload 4, 2) := by decide +kernel
theorem dX8_underBy_42 : decode cX8_underBy 42 = .ok (.invokevirtual 166, 3) := by decide +kernel
theorem dX8_underBy_45 : decode cX8_underBy 45 = .ok (.isub, 1) := by decide +kernel
theorem dX8_underBy_46 : decode cX8_underBy 46 = .ok (.aload_n 0, 1) := by decide +kernel
theorem dX8_underBy_47 : decode cX8_underBy 47 = .ok (.getfield 19, 3) := by decide +kernel
theorem dX8_underBy_50 : decode cX8_underBy 50 = .ok (.iconst 3, 1) := by decide +kernel
theorem dX8_underBy_51 : decode cX8_underBy 51 = .ok (.iload_n 1, 1) := by decide +kernel
theorem dX8_underBy_52 : decode cX8_underBy 52 = .ok (.imul, 1) := by decide +kernel
theorem dX8_underBy_53 : decode cX8_underBy 53 = .ok (.iconst 1, 1) := by decide +kernel
theorem dX8_underBy_54 : decode cX8_underBy 54 = .ok (.iadd, 1) := by decide +kernel
theorem dX8_underBy_55 : decode cX8_underBy 55 = .ok (.iaload, 1) := by decide +kernel
theorem dX8_underBy_56 : decode cX8_underBy 56 = .ok (.aload_n 0, 1) := by decide +kernel
theorem dX8_underBy_57 : decode cX8_underBy 57 = .ok (.getfield 16, 3) := by decide +kernel
theorem dX8_underBy_60 : decode cX8_underBy 60 = .ok (.iconst 1, 1) := by decide +kernel
theorem dX8_underBy_61 : decode cX8_underBy 61 = .ok (.iaload, 1) := by decide +kernel
theorem dX8_underBy_62 : decode cX8_underBy 62 = .ok (.imul, 1) := by decide +kernel
theorem dX8_underBy_63 : decode cX8_underBy 63 = .ok (.bipush 20, 2) := by decide +kernel
theorem dX8_underBy_65 : decode cX8_underBy 65 = .ok (.idiv, 1) := by decide +kernel
theorem dX8_underBy_66 : decode cX8_underBy 66 = .ok (.isub, 1) := by decide +kernel
theorem dX8_underBy_67 : decode cX8_underBy 67 = .ok (.ireturn, 1) := by decide +kernel
theorem dX8_needOf_0 : decode cX8_needOf 0 = .ok (.aload_n 0, 1) := by decide +kernel
theorem dX8_needOf_1 : decode cX8_needOf 1 = .ok (.getfield 16, 3) := by decide +kernel
theorem dX8_needOf_4 : decode cX8_needOf 4 = .ok (.iconst 3, 1) := by decide +kernel
theorem dX8_needOf_5 : decode cX8_needOf 5 = .ok (.iaload, 1) := by decide +kernel
theorem dX8_needOf_6 : decode cX8_needOf 6 = .ok (.ifCond .ne 12, 3) := by decide +kernel
theorem dX8_needOf_9 : decode cX8_needOf 9 = .ok (.aload_n 0, 1) := by decide +kernel
theorem dX8_needOf_10 : decode cX8_needOf 10 = .ok (.getfield 16, 3) := by decide +kernel
theorem dX8_needOf_13 : decode cX8_needOf 13 = .ok (.iconst 4, 1) := by decide +kernel
theorem dX8_needOf_14 : decode cX8_needOf 14 = .ok (.iaload, 1) := by decide +kernel
theorem dX8_needOf_15 : decode cX8_needOf 15 = .ok (.goto 21, 3) := by decide +kernel
theorem dX8_needOf_18 : decode cX8_needOf 18 = .ok (.aload_n 0, 1) := by decide +kernel
theorem dX8_needOf_19 : decode cX8_needOf 19 = .ok (.getfield 19, 3) := by decide +kernel
theorem dX8_needOf_22 : decode cX8_needOf 22 = .ok (.iconst 3, 1) := by decide +kernel
theorem dX8_needOf_23 : decode cX8_needOf 23 = .ok (.iload_n 1, 1) := by decide +kernel
theorem dX8_needOf_24 : decode cX8_needOf 24 = .ok (.imul, 1) := by decide +kernel
theorem dX8_needOf_25 : decode cX8_needOf 25 = .ok (.iaload, 1) := by decide +kernel
theorem dX8_needOf_26 : decode cX8_needOf 26 = .ok (.aload_n 0, 1) := by decide +kernel
theorem dX8_needOf_27 : decode cX8_needOf 27 = .ok (.getfield 16, 3) := by decide +kernel
theorem dX8_needOf_30 : decode cX8_needOf 30 = .ok (.iconst 4, 1) := by decide +kernel
theorem dX8_needOf_31 : decode cX8_needOf 31 = .ok (.iaload, 1) := by decide +kernel
theorem dX8_needOf_32 : decode cX8_needOf 32 = .ok (.imul, 1) := by decide +kernel
theorem dX8_needOf_33 : decode cX8_needOf 33 = .ok (.bipush 100, 2) := by decide +kernel
theorem dX8_needOf_35 : decode cX8_needOf 35 = .ok (.idiv, 1) := by decide +kernel
theorem dX8_needOf_36 : decode cX8_needOf 36 = .ok (.ireturn, 1) := by decide +kernel
theorem dX8_isMinute_0 : decode cX8_isMinute 0 = .ok (.iload_n 0, 1) := by decide +kernel
theorem dX8_isMinute_1 : decode cX8_isMinute 1 = .ok (.i2l, 1) := by decide +kernel
theorem dX8_isMinute_2 : decode cX8_isMinute 2 = .ok (.lconst 0, 1) := by decide +kernel
theorem dX8_isMinute_3 : decode cX8_isMinute 3 = .ok (.ldc2_w 170, 3) := by decide +kernel
theorem dX8_isMinute_6 : decode cX8_isMinute 6 = .ok (.invokestatic 73, 3) := by decide +kernel
theorem dX8_isMinute_9 : decode cX8_isMinute 9 = .ok (.ireturn, 1) := by decide +kernel
theorem dX8_tide_0 : decode cX8_tide 0 = .ok (.iload_n 1, 1) := by decide +kernel
theorem dX8_tide_1 : decode cX8_tide 1 = .ok (.invokestatic 172, 3) := by decide +kernel
theorem dX8_tide_4 : decode cX8_tide 4 = .ok (.ifCond .eq 11, 3) := by decide +kernel
theorem dX8_tide_7 : decode cX8_tide 7 = .ok (.aload_n 0, 1) := by decide +kernel
theorem dX8_tide_8 : decode cX8_tide 8 = .ok (.iload_n 1, 1) := by decide +kernel
theorem dX8_tide_9 : decode cX8_tide 9 = .ok (.invokevirtual 162, 3) := by decide +kernel
theorem dX8_tide_12 : decode cX8_tide 12 = .ok (.goto 4, 3) := by decide +kernel
theorem dX8_tide_15 : decode cX8_tide 15 = .ok (.iconst (-1), 1) := by decide +kernel
theorem dX8_tide_16 : decode cX8_tide 16 = .ok (.ireturn, 1) := by decide +kernel
theorem dX8_water_0 : decode cX8_water 0 = .ok (.aload_n 0, 1) := by decide +kernel
theorem dX8_water_1 : decode cX8_water 1 = .ok (.iload_n 1, 1) := by decide +kernel
theorem dX8_water_2 : decode cX8_water 2 = .ok (.invokevirtual 104, 3) := by decide +kernel
theorem dX8_water_5 : decode cX8_water 5 = .ok (.ifCond .eq 19, 3) := by decide +kernel
theorem dX8_water_8 : decode cX8_water 8 = .ok (.iload_n 2, 1) := by decide +kernel
theorem dX8_water_9 : decode cX8_water 9 = .ok (.invokestatic 172, 3) := by decide +kernel
theorem dX8_water_12 : decode cX8_water 12 = .ok (.ifCond .eq 12, 3) := by decide +kernel
theorem dX8_water_15 : decode cX8_water 15 = .ok (.aload_n 0, 1) := by decide +kernel
theorem dX8_water_16 : decode cX8_water 16 = .ok (.iload_n 1, 1) := by decide +kernel
theorem dX8_water_17 : decode cX8_water 17 = .ok (.iload_n 2, 1) := by decide +kernel
theorem dX8_water_18 : decode cX8_water 18 = .ok (.invokevirtual 175, 3) := by decide +kernel
theorem dX8_water_21 : decode cX8_water 21 = .ok (.goto 5, 3) := by decide +kernel
theorem dX8_water_24 : decode cX8_water 24 = .ok (.ldc 178, 2) := by decide +kernel
theorem dX8_water_26 : decode cX8_water 26 = .ok (.ireturn, 1) := by decide +kernel
theorem dX8_sinks_0 : decode cX8_sinks 0 = .ok (.aload_n 0, 1) := by decide +kernel
theorem dX8_sinks_1 : decode cX8_sinks 1 = .ok (.iload_n 1, 1) := by decide +kernel
theorem dX8_sinks_2 : decode cX8_sinks 2 = .ok (.invokevirtual 179, 3) := by decide +kernel
theorem dX8_sinks_5 : decode cX8_sinks 5 = .ok (.ifCond .eq 26, 3) := by decide +kernel
theorem dX8_sinks_8 : decode cX8_sinks 8 = .ok (.aload_n 0, 1) := by decide +kernel
theorem dX8_sinks_9 : decode cX8_sinks 9 = .ok (.iload_n 2, 1) := by decide +kernel
theorem dX8_sinks_10 : decode cX8_sinks 10 = .ok (.invokevirtual 104, 3) := by decide +kernel
theorem dX8_sinks_13 : decode cX8_sinks 13 = .ok (.ifCond .eq 18, 3) := by decide +kernel
theorem dX8_sinks_16 : decode cX8_sinks 16 = .ok (.iload_n 3, 1) := by decide +kernel
theorem dX8_sinks_17 : decode cX8_sinks 17 = .ok (.invokestatic 172, 3) := by decide +kernel
theorem dX8_sinks_20 : decode cX8_sinks 20 = .ok (.ifCond .eq 11, 3) := by decide +kernel
theorem dX8_sinks_23 : decode cX8_sinks 23 = .ok (.iload 4, 2) := by decide +kernel
theorem dX8_sinks_25 : decode cX8_sinks 25 = .ok (.invokestatic 119, 3) := by decide +kernel
theorem dX8_sinks_28 : decode cX8_sinks 28 = .ok (.ifCond .ne 5, 3) := by decide +kernel
theorem dX8_sinks_31 : decode cX8_sinks 31 = .ok (.iconst (-1), 1) := by decide +kernel
theorem dX8_sinks_32 : decode cX8_sinks 32 = .ok (.ireturn, 1) := by decide +kernel
theorem dX8_sinks_33 : decode cX8_sinks 33 = .ok (.aload_n 0, 1) := by decide +kernel
theorem dX8_sinks_34 : decode cX8_sinks 34 = .ok (.iload_n 1, 1) := by decide +kernel
theorem dX8_sinks_35 : decode cX8_sinks 35 = .ok (.iload_n 2, 1) := by decide +kernel
theorem dX8_sinks_36 : decode cX8_sinks 36 = .ok (.aload_n 0, 1) := by decide +kernel
theorem dX8_sinks_37 : decode cX8_sinks 37 = .ok (.iload_n 2, 1) := by decide +kernel
theorem dX8_sinks_38 : decode cX8_sinks 38 = .ok (.iload_n 3, 1) := by decide +kernel
theorem dX8_sinks_39 : decode cX8_sinks 39 = .ok (.invokevirtual 175, 3) := by decide +kernel
theorem dX8_sinks_42 : decode cX8_sinks 42 = .ok (.iload 4, 2) := by decide +kernel
theorem dX8_sinks_44 : decode cX8_sinks 44 = .ok (.invokevirtual 166, 3) := by decide +kernel
theorem dX8_sinks_47 : decode cX8_sinks 47 = .ok (.ireturn, 1) := by decide +kernel
theorem dX8_under_0 : decode cX8_under 0 = .ok (.aload_n 0, 1) := by decide +kernel
theorem dX8_under_1 : decode cX8_under 1 = .ok (.iload_n 1, 1) := by decide +kernel
theorem dX8_under_2 : decode cX8_under 2 = .ok (.invokevirtual 179, 3) := by decide +kernel
theorem dX8_under_5 : decode cX8_under 5 = .ok (.ifCond .eq 26, 3) := by decide +kernel
theorem dX8_under_8 : decode cX8_under 8 = .ok (.aload_n 0, 1) := by decide +kernel
theorem dX8_under_9 : decode cX8_under 9 = .ok (.iload_n 2, 1) := by decide +kernel
theorem dX8_under_10 : decode cX8_under 10 = .ok (.invokevirtual 104, 3) := by decide +kernel
theorem dX8_under_13 : decode cX8_under 13 = .ok (.ifCond .eq 18, 3) := by decide +kernel
theorem dX8_under_16 : decode cX8_under 16 = .ok (.iload_n 3, 1) := by decide +kernel
theorem dX8_under_17 : decode cX8_under 17 = .ok (.invokestatic 172, 3) := by decide +kernel
theorem dX8_under_20 : decode cX8_under 20 = .ok (.ifCond .eq 11, 3) := by decide +kernel
theorem dX8_under_23 : decode cX8_under 23 = .ok (.iload 4, 2) := by decide +kernel
theorem dX8_under_25 : decode cX8_under 25 = .ok (.invokestatic 119, 3) := by decide +kernel
theorem dX8_under_28 : decode cX8_under 28 = .ok (.ifCond .ne 6, 3) := by decide +kernel
theorem dX8_under_31 : decode cX8_under 31 = .ok (.ldc 178, 2) := by decide +kernel
theorem dX8_under_33 : decode cX8_under 33 = .ok (.ireturn, 1) := by decide +kernel
theorem dX8_under_34 : decode cX8_under 34 = .ok (.aload_n 0, 1) := by decide +kernel
theorem dX8_under_35 : decode cX8_under 35 = .ok (.iload_n 1, 1) := by decide +kernel
theorem dX8_under_36 : decode cX8_under 36 = .ok (.iload_n 2, 1) := by decide +kernel
theorem dX8_under_37 : decode cX8_under 37 = .ok (.aload_n 0, 1) := by decide +kernel
theorem dX8_under_38 : decode cX8_under 38 = .ok (.iload_n 2, 1) := by decide +kernel
theorem dX8_under_39 : decode cX8_under 39 = .ok (.iload_n 3, 1) := by decide +kernel
theorem dX8_under_40 : decode cX8_under 40 = .ok (.invokevirtual 175, 3) := by decide +kernel
theorem dX8_under_43 : decode cX8_under 43 = .ok (.iload 4, 2) := by decide +kernel
theorem dX8_under_45 : decode cX8_under 45 = .ok (.invokevirtual 182, 3) := by decide +kernel
theorem dX8_under_48 : decode cX8_under 48 = .ok (.ireturn, 1) := by decide +kernel
theorem dX8_need_0 : decode cX8_need 0 = .ok (.aload_n 0, 1) := by decide +kernel
theorem dX8_need_1 : decode cX8_need 1 = .ok (.iload_n 1, 1) := by decide +kernel
theorem dX8_need_2 : decode cX8_need 2 = .ok (.invokevirtual 179, 3) := by decide +kernel
theorem dX8_need_5 : decode cX8_need 5 = .ok (.ifCond .eq 11, 3) := by decide +kernel
theorem dX8_need_8 : decode cX8_need 8 = .ok (.aload_n 0, 1) := by decide +kernel
theorem dX8_need_9 : decode cX8_need 9 = .ok (.iload_n 1, 1) := by decide +kernel
theorem dX8_need_10 : decode cX8_need 10 = .ok (.invokevirtual 185, 3) := by decide +kernel
theorem dX8_need_13 : decode cX8_need 13 = .ok (.goto 4, 3) := by decide +kernel
theorem dX8_need_16 : decode cX8_need 16 = .ok (.iconst (-1), 1) := by decide +kernel
theorem dX8_need_17 : decode cX8_need 17 = .ok (.ireturn, 1) := by decide +kernel
theorem dX8_goes_0 : decode cX8_goes 0 = .ok (.aload_n 0, 1) := by decide +kernel
theorem dX8_goes_1 : decode cX8_goes 1 = .ok (.bipush (-4), 2) := by decide +kernel
theorem dX8_goes_3 : decode cX8_goes 3 = .ok (.putfield 188, 3) := by decide +kernel
theorem dX8_goes_6 : decode cX8_goes 6 = .ok (.aload_n 0, 1) := by decide +kernel
theorem dX8_goes_7 : decode cX8_goes 7 = .ok (.iconst 0, 1) := by decide +kernel
theorem dX8_goes_8 : decode cX8_goes 8 = .ok (.putfield 191, 3) := by decide +kernel
theorem dX8_goes_11 : decode cX8_goes 11 = .ok (.aload_n 0, 1) := by decide +kernel
theorem dX8_goes_12 : decode cX8_goes 12 = .ok (.ldc 194, 2) := by decide +kernel
theorem dX8_goes_14 : decode cX8_goes 14 = .ok (.putfield 195, 3) := by decide +kernel
theorem dX8_goes_17 : decode cX8_goes 17 = .ok (.aload_n 0, 1) := by decide +kernel
theorem dX8_goes_18 : decode cX8_goes 18 = .ok (.iconst 1, 1) := by decide +kernel
theorem dX8_goes_19 : decode cX8_goes 19 = .ok (.putfield 198, 3) := by decide +kernel
theorem dX8_goes_22 : decode cX8_goes 22 = .ok (.iload_n 2, 1) := by decide +kernel
theorem dX8_goes_23 : decode cX8_goes 23 = .ok (.istore_n 3, 1) := by decide +kernel
theorem dX8_goes_24 : decode cX8_goes 24 = .ok (.iconst 0, 1) := by decide +kernel
theorem dX8_goes_25 : decode cX8_goes 25 = .ok (.istore 4, 2) := by decide +kernel
theorem dX8_goes_27 : decode cX8_goes 27 = .ok (.iload 4, 2) := by decide +kernel
theorem dX8_goes_29 : decode cX8_goes 29 = .ok (.aload_n 0, 1) := by decide +kernel
theorem dX8_goes_30 : decode cX8_goes 30 = .ok (.getfield 69, 3) := by decide +kernel
theorem dX8_goes_33 : decode cX8_goes 33 = .ok (.if_icmp .ge 129, 3) := by decide +kernel
theorem dX8_goes_36 : decode cX8_goes 36 = .ok (.aload_n 0, 1) := by decide +kernel
theorem dX8_goes_37 : decode cX8_goes 37 = .ok (.getfield 188, 3) := by decide +kernel
theorem dX8_goes_40 : decode cX8_goes 40 = .ok (.ifCond .ge 122, 3) := by decide +kernel
theorem dX8_goes_43 : decode cX8_goes 43 = .ok (.aload_n 0, 1) := by decide +kernel
theorem dX8_goes_44 : decode cX8_goes 44 = .ok (.getfield 7, 3) := by decide +kernel
theorem dX8_goes_47 : decode cX8_goes 47 = .ok (.bipush 6, 2) := by decide +kernel
theorem dX8_goes_49 : decode cX8_goes 49 = .ok (.iload 4, 2) := by decide +kernel
theorem dX8_goes_51 : decode cX8_goes 51 = .ok (.imul, 1) := by decide +kernel
theorem dX8_goes_52 : decode cX8_goes 52 = .ok (.iconst 5, 1) := by decide +kernel
theorem dX8_goes_53 : decode cX8_goes 53 = .ok (.iadd, 1) := by decide +kernel
theorem dX8_goes_54 : decode cX8_goes 54 = .ok (.iaload, 1) := by decide +kernel
theorem dX8_goes_55 : decode cX8_goes 55 = .ok (.istore 5, 2) := by decide +kernel
theorem dX8_goes_57 : decode cX8_goes 57 = .ok (.aload_n 0, 1) := by decide +kernel
theorem dX8_goes_58 : decode cX8_goes 58 = .ok (.iload_n 1, 1) := by decide +kernel
theorem dX8_goes_59 : decode cX8_goes 59 = .ok (.iload 4, 2) := by decide +kernel
theorem dX8_goes_61 : decode cX8_goes 61 = .ok (.aload_n 0, 1) := by decide +kernel
theorem dX8_goes_62 : decode cX8_goes 62 = .ok (.iload 4, 2) := by decide +kernel
theorem dX8_goes_64 : decode cX8_goes 64 = .ok (.iload_n 3, 1) := by decide +kernel
theorem dX8_goes_65 : decode cX8_goes 65 = .ok (.invokevirtual 175, 3) := by decide +kernel
theorem dX8_goes_68 : decode cX8_goes 68 = .ok (.iload 5, 2) := by decide +kernel
theorem dX8_goes_70 : decode cX8_goes 70 = .ok (.invokevirtual 182, 3) := by decide +kernel
theorem dX8_goes_73 : decode cX8_goes 73 = .ok (.istore 6, 2) := by decide +kernel
theorem dX8_goes_75 : decode cX8_goes 75 = .ok (.aload_n 0, 1) := by decide +kernel
theorem dX8_goes_76 : decode cX8_goes 76 = .ok (.iload 6, 2) := by decide +kernel
theorem dX8_goes_78 : decode cX8_goes 78 = .ok (.aload_n 0, 1) := by decide +kernel
theorem dX8_goes_79 : decode cX8_goes 79 = .ok (.getfield 195, 3) := by decide +kernel
theorem dX8_goes_82 : decode cX8_goes 82 = .ok (.if_icmp .ge 8, 3) := by decide +kernel
theorem dX8_goes_85 : decode cX8_goes 85 = .ok (.iload 6, 2) := by decide +kernel
theorem dX8_goes_87 : decode cX8_goes 87 = .ok (.goto 7, 3) := by decide +kernel
theorem dX8_goes_90 : decode cX8_goes 90 = .ok (.aload_n 0, 1) := by decide +kernel
theorem dX8_goes_91 : decode cX8_goes 91 = .ok (.getfield 195, 3) := by decide +kernel
theorem dX8_goes_94 : decode cX8_goes 94 = .ok (.putfield 195, 3) := by decide +kernel
theorem dX8_goes_97 : decode cX8_goes 97 = .ok (.aload_n 0, 1) := by decide +kernel
theorem dX8_goes_98 : decode cX8_goes 98 = .ok (.aload_n 0, 1) := by decide +kernel
theorem dX8_goes_99 : decode cX8_goes 99 = .ok (.getfield 198, 3) := by decide +kernel
theorem dX8_goes_102 : decode cX8_goes 102 = .ok (.ifCond .eq 17, 3) := by decide +kernel
theorem dX8_goes_105 : decode cX8_goes 105 = .ok (.iload 6, 2) := by decide +kernel
theorem dX8_goes_107 : decode cX8_goes 107 = .ok (.aload_n 0, 1) := by decide +kernel
theorem dX8_goes_108 : decode cX8_goes 108 = .ok (.iload_n 1, 1) := by decide +kernel
theorem dX8_goes_109 : decode cX8_goes 109 = .ok (.invokevirtual 185, 3) := by decide +kernel
theorem dX8_goes_112 : decode cX8_goes 112 = .ok (.if_icmp .lt 7, 3) := by decide +kernel
theorem dX8_goes_115 : decode cX8_goes 115 = .ok (.iconst 1, 1) := by decide +kernel
theorem dX8_goes_116 : decode cX8_goes 116 = .ok (.goto 4, 3) := by decide +kernel
theorem dX8_goes_119 : decode cX8_goes 119 = .ok (.iconst 0, 1) := by decide +kernel
theorem dX8_goes_120 : decode cX8_goes 120 = .ok (.putfield 198, 3) := by decide +kernel
theorem dX8_goes_123 : decode cX8_goes 123 = .ok (.aload_n 0, 1) := by decide +kernel
theorem dX8_goes_124 : decode cX8_goes 124 = .ok (.iload 6, 2) := by decide +kernel
theorem dX8_goes_126 : decode cX8_goes 126 = .ok (.ifCond .ge 8, 3) := by decide +kernel
theorem dX8_goes_129 : decode cX8_goes 129 = .ok (.iload 4, 2) := by decide +kernel
theorem dX8_goes_131 : decode cX8_goes 131 = .ok (.goto 5, 3) := by decide +kernel
theorem dX8_goes_134 : decode cX8_goes 134 = .ok (.bipush (-4), 2) := by decide +kernel
theorem dX8_goes_136 : decode cX8_goes 136 = .ok (.putfield 188, 3) := by decide +kernel
theorem dX8_goes_139 : decode cX8_goes 139 = .ok (.iload_n 3, 1) := by decide +kernel
theorem dX8_goes_140 : decode cX8_goes 140 = .ok (.iload 6, 2) := by decide +kernel
theorem dX8_goes_142 : decode cX8_goes 142 = .ok (.ifCond .ge 7, 3) := by decide +kernel
theorem dX8_goes_145 : decode cX8_goes 145 = .ok (.iconst 0, 1) := by decide +kernel
theorem dX8_goes_146 : decode cX8_goes 146 = .ok (.goto 8, 3) := by decide +kernel
theorem dX8_goes_149 : decode cX8_goes 149 = .ok (.bipush 60, 2) := by decide +kernel
theorem dX8_goes_151 : decode cX8_goes 151 = .ok (.iload 5, 2) := by decide +kernel
theorem dX8_goes_153 : decode cX8_goes 153 = .ok (.idiv, 1) := by decide +kernel
theorem dX8_goes_154 : decode cX8_goes 154 = .ok (.iadd, 1) := by decide +kernel
theorem dX8_goes_155 : decode cX8_goes 155 = .ok (.istore_n 3, 1) := by decide +kernel
theorem dX8_goes_156 : decode cX8_goes 156 = .ok (.iinc 4 1, 3) := by decide +kernel
theorem dX8_goes_159 : decode cX8_goes 159 = .ok (.goto (-132), 3) := by decide +kernel
theorem dX8_goes_162 : decode cX8_goes 162 = .ok (.aload_n 0, 1) := by decide +kernel
theorem dX8_goes_163 : decode cX8_goes 163 = .ok (.iload_n 3, 1) := by decide +kernel
theorem dX8_goes_164 : decode cX8_goes 164 = .ok (.iload_n 2, 1) := by decide +kernel
theorem dX8_goes_165 : decode cX8_goes 165 = .ok (.isub, 1) := by decide +kernel
theorem dX8_goes_166 : decode cX8_goes 166 = .ok (.putfield 191, 3) := by decide +kernel
theorem dX8_goes_169 : decode cX8_goes 169 = .ok (.return_, 1) := by decide +kernel
