theorem dX8_run_0 : decode cX8_run 0 = .ok (.aload_n 0, 1) := by decide +kernel
theorem dX8_run_1 : decode cX8_run 1 = .ok (.iload_n 1, 1) := by decide +kernel
theorem dX8_run_2 : decode cX8_run 2 = .ok (.invokevirtual 179, 3) := by decide +kernel
theorem dX8_run_5 : decode cX8_run 5 = .ok (.ifCond .eq 22, 3) := by decide +kernel
theorem dX8_run_8 : decode cX8_run 8 = .ok (.iload_n 2, 1) := by decide +kernel
theorem dX8_run_9 : decode cX8_run 9 = .ok (.invokestatic 201, 3) := by decide +kernel
theorem dX8_run_12 : decode cX8_run 12 = .ok (.ifCond .eq 15, 3) := by decide +kernel
theorem dX8_run_15 : decode cX8_run 15 = .ok (.iload_n 3, 1) := by decide +kernel
theorem dX8_run_16 : decode cX8_run 16 = .ok (.i2l, 1) := by decide +kernel
theorem dX8_run_17 : decode cX8_run 17 = .ok (.lconst 0, 1) := by decide +kernel
theorem dX8_run_18 : decode cX8_run 18 = .ok (.ldc2_w 204, 3) := by decide +kernel
theorem dX8_run_21 : decode cX8_run 21 = .ok (.invokestatic 73, 3) := by decide +kernel
theorem dX8_run_24 : decode cX8_run 24 = .ok (.ifCond .ne 5, 3) := by decide +kernel
theorem dX8_run_27 : decode cX8_run 27 = .ok (.iconst (-1), 1) := by decide +kernel
theorem dX8_run_28 : decode cX8_run 28 = .ok (.ireturn, 1) := by decide +kernel
theorem dX8_run_29 : decode cX8_run 29 = .ok (.aload_n 0, 1) := by decide +kernel
theorem dX8_run_30 : decode cX8_run 30 = .ok (.getfield 69, 3) := by decide +kernel
theorem dX8_run_33 : decode cX8_run 33 = .ok (.ifCond .ne 6, 3) := by decide +kernel
theorem dX8_run_36 : decode cX8_run 36 = .ok (.bipush (-2), 2) := by decide +kernel
theorem dX8_run_38 : decode cX8_run 38 = .ok (.ireturn, 1) := by decide +kernel
theorem dX8_run_39 : decode cX8_run 39 = .ok (.aload_n 0, 1) := by decide +kernel
theorem dX8_run_40 : decode cX8_run 40 = .ok (.iload_n 1, 1) := by decide +kernel
theorem dX8_run_41 : decode cX8_run 41 = .ok (.iload_n 2, 1) := by decide +kernel
theorem dX8_run_42 : decode cX8_run 42 = .ok (.invokevirtual 206, 3) := by decide +kernel
theorem dX8_run_45 : decode cX8_run 45 = .ok (.iload_n 3, 1) := by decide +kernel
theorem dX8_run_46 : decode cX8_run 46 = .ok (.ifCond .ne 10, 3) := by decide +kernel
theorem dX8_run_49 : decode cX8_run 49 = .ok (.aload_n 0, 1) := by decide +kernel
theorem dX8_run_50 : decode cX8_run 50 = .ok (.getfield 188, 3) := by decide +kernel
theorem dX8_run_53 : decode cX8_run 53 = .ok (.goto 42, 3) := by decide +kernel
theorem dX8_run_56 : decode cX8_run 56 = .ok (.iload_n 3, 1) := by decide +kernel
theorem dX8_run_57 : decode cX8_run 57 = .ok (.iconst 1, 1) := by decide +kernel
theorem dX8_run_58 : decode cX8_run 58 = .ok (.if_icmp .ne 10, 3) := by decide +kernel
theorem dX8_run_61 : decode cX8_run 61 = .ok (.aload_n 0, 1) := by decide +kernel
theorem dX8_run_62 : decode cX8_run 62 = .ok (.getfield 191, 3) := by decide +kernel
theorem dX8_run_65 : decode cX8_run 65 = .ok (.goto 30, 3) := by decide +kernel
theorem dX8_run_68 : decode cX8_run 68 = .ok (.iload_n 3, 1) := by decide +kernel
theorem dX8_run_69 : decode cX8_run 69 = .ok (.iconst 2, 1) := by decide +kernel
theorem dX8_run_70 : decode cX8_run 70 = .ok (.if_icmp .ne 13, 3) := by decide +kernel
theorem dX8_run_73 : decode cX8_run 73 = .ok (.ldc 194, 2) := by decide +kernel
theorem dX8_run_75 : decode cX8_run 75 = .ok (.aload_n 0, 1) := by decide +kernel
theorem dX8_run_76 : decode cX8_run 76 = .ok (.getfield 195, 3) := by decide +kernel
theorem dX8_run_79 : decode cX8_run 79 = .ok (.iadd, 1) := by decide +kernel
theorem dX8_run_80 : decode cX8_run 80 = .ok (.goto 15, 3) := by decide +kernel
theorem dX8_run_83 : decode cX8_run 83 = .ok (.aload_n 0, 1) := by decide +kernel
theorem dX8_run_84 : decode cX8_run 84 = .ok (.getfield 198, 3) := by decide +kernel
theorem dX8_run_87 : decode cX8_run 87 = .ok (.ifCond .eq 7, 3) := by decide +kernel
theorem dX8_run_90 : decode cX8_run 90 = .ok (.iconst 1, 1) := by decide +kernel
theorem dX8_run_91 : decode cX8_run 91 = .ok (.goto 4, 3) := by decide +kernel
theorem dX8_run_94 : decode cX8_run 94 = .ok (.iconst 0, 1) := by decide +kernel
theorem dX8_run_95 : decode cX8_run 95 = .ok (.ireturn, 1) := by decide +kernel
theorem dX8_quickest_0 : decode cX8_quickest 0 = .ok (.aload_n 0, 1) := by decide +kernel
theorem dX8_quickest_1 : decode cX8_quickest 1 = .ok (.iload_n 1, 1) := by decide +kernel
theorem dX8_quickest_2 : decode cX8_quickest 2 = .ok (.invokevirtual 185, 3) := by decide +kernel
theorem dX8_quickest_5 : decode cX8_quickest 5 = .ok (.istore_n 3, 1) := by decide +kernel
theorem dX8_quickest_6 : decode cX8_quickest 6 = .ok (.iconst 0, 1) := by decide +kernel
theorem dX8_quickest_7 : decode cX8_quickest 7 = .ok (.istore 4, 2) := by decide +kernel
theorem dX8_quickest_9 : decode cX8_quickest 9 = .ok (.iload 4, 2) := by decide +kernel
theorem dX8_quickest_11 : decode cX8_quickest 11 = .ok (.sipush 961, 3) := by decide +kernel
theorem dX8_quickest_14 : decode cX8_quickest 14 = .ok (.if_icmp .ge 26, 3) := by decide +kernel
theorem dX8_quickest_17 : decode cX8_quickest 17 = .ok (.aload_n 0, 1) := by decide +kernel
theorem dX8_quickest_18 : decode cX8_quickest 18 = .ok (.getfield 28, 3) := by decide +kernel
theorem dX8_quickest_21 : decode cX8_quickest 21 = .ok (.sipush 961, 3) := by decide +kernel
theorem dX8_quickest_24 : decode cX8_quickest 24 = .ok (.aload_n 0, 1) := by decide +kernel
theorem dX8_quickest_25 : decode cX8_quickest 25 = .ok (.getfield 69, 3) := by decide +kernel
theorem dX8_quickest_28 : decode cX8_quickest 28 = .ok (.imul, 1) := by decide +kernel
theorem dX8_quickest_29 : decode cX8_quickest 29 = .ok (.iload 4, 2) := by decide +kernel
theorem dX8_quickest_31 : decode cX8_quickest 31 = .ok (.iadd, 1) := by decide +kernel
theorem dX8_quickest_32 : decode cX8_quickest 32 = .ok (.iconst 0, 1) := by decide +kernel
theorem dX8_quickest_33 : decode cX8_quickest 33 = .ok (.iastore, 1) := by decide +kernel
theorem dX8_quickest_34 : decode cX8_quickest 34 = .ok (.iinc 4 1, 3) := by decide +kernel
theorem dX8_quickest_37 : decode cX8_quickest 37 = .ok (.goto (-28), 3) := by decide +kernel
theorem dX8_quickest_40 : decode cX8_quickest 40 = .ok (.aload_n 0, 1) := by decide +kernel
theorem dX8_quickest_41 : decode cX8_quickest 41 = .ok (.getfield 69, 3) := by decide +kernel
theorem dX8_quickest_44 : decode cX8_quickest 44 = .ok (.iconst 1, 1) := by decide +kernel
theorem dX8_quickest_45 : decode cX8_quickest 45 = .ok (.isub, 1) := by decide +kernel
theorem dX8_quickest_46 : decode cX8_quickest 46 = .ok (.istore 4, 2) := by decide +kernel
theorem dX8_quickest_48 : decode cX8_quickest 48 = .ok (.iload 4, 2) := by decide +kernel
theorem dX8_quickest_50 : decode cX8_quickest 50 = .ok (.ifCond .lt 179, 3) := by decide +kernel
theorem dX8_quickest_53 : decode cX8_quickest 53 = .ok (.iconst 0, 1) := by decide +kernel
theorem dX8_quickest_54 : decode cX8_quickest 54 = .ok (.istore 5, 2) := by decide +kernel
theorem dX8_quickest_56 : decode cX8_quickest 56 = .ok (.iload 5, 2) := by decide +kernel
theorem dX8_quickest_58 : decode cX8_quickest 58 = .ok (.bipush 60, 2) := by decide +kernel
theorem dX8_quickest_60 : decode cX8_quickest 60 = .ok (.iload 4, 2) := by decide +kernel
theorem dX8_quickest_62 : decode cX8_quickest 62 = .ok (.imul, 1) := by decide +kernel
theorem dX8_quickest_63 : decode cX8_quickest 63 = .ok (.if_icmp .gt 160, 3) := by decide +kernel
theorem dX8_quickest_66 : decode cX8_quickest 66 = .ok (.aload_n 0, 1) := by decide +kernel
theorem dX8_quickest_67 : decode cX8_quickest 67 = .ok (.iload 4, 2) := by decide +kernel
theorem dX8_quickest_69 : decode cX8_quickest 69 = .ok (.iload_n 2, 1) := by decide +kernel
theorem dX8_quickest_70 : decode cX8_quickest 70 = .ok (.iload 5, 2) := by decide +kernel
theorem dX8_quickest_72 : decode cX8_quickest 72 = .ok (.iadd, 1) := by decide +kernel
theorem dX8_quickest_73 : decode cX8_quickest 73 = .ok (.invokevirtual 175, 3) := by decide +kernel
theorem dX8_quickest_76 : decode cX8_quickest 76 = .ok (.istore 6, 2) := by decide +kernel
theorem dX8_quickest_78 : decode cX8_quickest 78 = .ok (.ldc 194, 2) := by decide +kernel
theorem dX8_quickest_80 : decode cX8_quickest 80 = .ok (.istore 7, 2) := by decide +kernel
theorem dX8_quickest_82 : decode cX8_quickest 82 = .ok (.iconst 0, 1) := by decide +kernel
theorem dX8_quickest_83 : decode cX8_quickest 83 = .ok (.istore 8, 2) := by decide +kernel
theorem dX8_quickest_85 : decode cX8_quickest 85 = .ok (.iconst 1, 1) := by decide +kernel
theorem dX8_quickest_86 : decode cX8_quickest 86 = .ok (.istore 9, 2) := by decide +kernel
theorem dX8_quickest_88 : decode cX8_quickest 88 = .ok (.iload 9, 2) := by decide +kernel
theorem dX8_quickest_90 : decode cX8_quickest 90 = .ok (.bipush 16, 2) := by decide +kernel
theorem dX8_quickest_92 : decode cX8_quickest 92 = .ok (.if_icmp .ge 93, 3) := by decide +kernel
theorem dX8_quickest_95 : decode cX8_quickest 95 = .ok (.aload_n 0, 1) := by decide +kernel
theorem dX8_quickest_96 : decode cX8_quickest 96 = .ok (.iload_n 1, 1) := by decide +kernel
theorem dX8_quickest_97 : decode cX8_quickest 97 = .ok (.iload 4, 2) := by decide +kernel
theorem dX8_quickest_99 : decode cX8_quickest 99 = .ok (.iload 6, 2) := by decide +kernel
theorem dX8_quickest_101 : decode cX8_quickest 101 = .ok (.iload 9, 2) := by decide +kernel
theorem dX8_quickest_103 : decode cX8_quickest 103 = .ok (.invokevirtual 182, 3) := by decide +kernel
theorem dX8_quickest_106 : decode cX8_quickest 106 = .ok (.iload_n 3, 1) := by decide +kernel
theorem dX8_quickest_107 : decode cX8_quickest 107 = .ok (.if_icmp .lt 36, 3) := by decide +kernel
theorem dX8_quickest_110 : decode cX8_quickest 110 = .ok (.bipush 60, 2) := by decide +kernel
theorem dX8_quickest_112 : decode cX8_quickest 112 = .ok (.iload 9, 2) := by decide +kernel
theorem dX8_quickest_114 : decode cX8_quickest 114 = .ok (.idiv, 1) := by decide +kernel
theorem dX8_quickest_115 : decode cX8_quickest 115 = .ok (.aload_n 0, 1) := by decide +kernel
theorem dX8_quickest_116 : decode cX8_quickest 116 = .ok (.getfield 28, 3) := by decide +kernel
theorem dX8_quickest_119 : decode cX8_quickest 119 = .ok (.sipush 961, 3) := by decide +kernel
theorem dX8_quickest_122 : decode cX8_quickest 122 = .ok (.iload 4, 2) := by decide +kernel
theorem dX8_quickest_124 : decode cX8_quickest 124 = .ok (.imul, 1) := by decide +kernel
theorem dX8_quickest_125 : decode cX8_quickest 125 = .ok (.sipush 961, 3) := by decide +kernel
theorem dX8_quickest_128 : decode cX8_quickest 128 = .ok (.iadd, 1) := by decide +kernel
theorem dX8_quickest_129 : decode cX8_quickest 129 = .ok (.iload 5, 2) := by decide +kernel
theorem dX8_quickest_131 : decode cX8_quickest 131 = .ok (.iadd, 1) := by decide +kernel
theorem dX8_quickest_132 : decode cX8_quickest 132 = .ok (.bipush 60, 2) := by decide +kernel
theorem dX8_quickest_134 : decode cX8_quickest 134 = .ok (.iload 9, 2) := by decide +kernel
theorem dX8_quickest_136 : decode cX8_quickest 136 = .ok (.idiv, 1) := by decide +kernel
theorem dX8_quickest_137 : decode cX8_quickest 137 = .ok (.iadd, 1) := by decide +kernel
theorem dX8_quickest_138 : decode cX8_quickest 138 = .ok (.iaload, 1) := by decide +kernel
theorem dX8_quickest_139 : decode cX8_quickest 139 = .ok (.iadd, 1) := by decide +kernel
theorem dX8_quickest_140 : decode cX8_quickest 140 = .ok (.goto 5, 3) := by decide +kernel
theorem dX8_quickest_143 : decode cX8_quickest 143 = .ok (.ldc 194, 2) := by decide +kernel
theorem dX8_quickest_145 : decode cX8_quickest 145 = .ok (.istore 10, 2) := by decide +kernel
theorem dX8_quickest_147 : decode cX8_quickest 147 = .ok (.iload 10, 2) := by decide +kernel
theorem dX8_quickest_149 : decode cX8_quickest 149 = .ok (.iload 7, 2) := by decide +kernel
theorem dX8_quickest_151 : decode cX8_quickest 151 = .ok (.if_icmp .ge 8, 3) := by decide +kernel
theorem dX8_quickest_154 : decode cX8_quickest 154 = .ok (.iload 9, 2) := by decide +kernel
theorem dX8_quickest_156 : decode cX8_quickest 156 = .ok (.goto 5, 3) := by decide +kernel
theorem dX8_quickest_159 : decode cX8_quickest 159 = .ok (.iload 8, 2) := by decide +kernel
theorem dX8_quickest_161 : decode cX8_quickest 161 = .ok (.istore 8, 2) := by decide +kernel
theorem dX8_quickest_163 : decode cX8_quickest 163 = .ok (.iload 10, 2) := by decide +kernel
theorem dX8_quickest_165 : decode cX8_quickest 165 = .ok (.iload 7, 2) := by decide +kernel
theorem dX8_quickest_167 : decode cX8_quickest 167 = .ok (.if_icmp .ge 8, 3) := by decide +kernel
theorem dX8_quickest_170 : decode cX8_quickest 170 = .ok (.iload 10, 2) := by decide +kernel
theorem dX8_quickest_172 : decode cX8_quickest 172 = .ok (.goto 5, 3) := by decide +kernel
theorem dX8_quickest_175 : decode cX8_quickest 175 = .ok (.iload 7, 2) := by decide +kernel
theorem dX8_quickest_177 : decode cX8_quickest 177 = .ok (.istore 7, 2) := by decide +kernel
theorem dX8_quickest_179 : decode cX8_quickest 179 = .ok (.iinc 9 1, 3) := by decide +kernel
theorem dX8_quickest_182 : decode cX8_quickest 182 = .ok (.goto (-94), 3) := by decide +kernel
theorem dX8_quickest_185 : decode cX8_quickest 185 = .ok (.aload_n 0, 1) := by decide +kernel
theorem dX8_quickest_186 : decode cX8_quickest 186 = .ok (.getfield 28, 3) := by decide +kernel
theorem dX8_quickest_189 : decode cX8_quickest 189 = .ok (.sipush 961, 3) := by decide +kernel
theorem dX8_quickest_192 : decode cX8_quickest 192 = .ok (.iload 4, 2) := by decide +kernel
theorem dX8_quickest_194 : decode cX8_quickest 194 = .ok (.imul, 1) := by decide +kernel
theorem dX8_quickest_195 : decode cX8_quickest 195 = .ok (.iload 5, 2) := by decide +kernel
theorem dX8_quickest_197 : decode cX8_quickest 197 = .ok (.iadd, 1) := by decide +kernel
theorem dX8_quickest_198 : decode cX8_quickest 198 = .ok (.iload 7, 2) := by decide +kernel
theorem dX8_quickest_200 : decode cX8_quickest 200 = .ok (.iastore, 1) := by decide +kernel
theorem dX8_quickest_201 : decode cX8_quickest 201 = .ok (.aload_n 0, 1) := by decide +kernel
theorem dX8_quickest_202 : decode cX8_quickest 202 = .ok (.getfield 31, 3) := by decide +kernel
theorem dX8_quickest_205 : decode cX8_quickest 205 = .ok (.sipush 961, 3) := by decide +kernel
theorem dX8_quickest_208 : decode cX8_quickest 208 = .ok (.iload 4, 2) := by decide +kernel
theorem dX8_quickest_210 : decode cX8_quickest 210 = .ok (.imul, 1) := by decide +kernel
theorem dX8_quickest_211 : decode cX8_quickest 211 = .ok (.iload 5, 2) := by decide +kernel
theorem dX8_quickest_213 : decode cX8_quickest 213 = .ok (.iadd, 1) := by decide +kernel
theorem dX8_quickest_214 : decode cX8_quickest 214 = .ok (.iload 8, 2) := by decide +kernel
theorem dX8_quickest_216 : decode cX8_quickest 216 = .ok (.iastore, 1) := by decide +kernel
theorem dX8_quickest_217 : decode cX8_quickest 217 = .ok (.iinc 5 1, 3) := by decide +kernel
theorem dX8_quickest_220 : decode cX8_quickest 220 = .ok (.goto (-164), 3) := by decide +kernel
theorem dX8_quickest_223 : decode cX8_quickest 223 = .ok (.iinc 4 (-1), 3) := by decide +kernel
theorem dX8_quickest_226 : decode cX8_quickest 226 = .ok (.goto (-178), 3) := by decide +kernel
theorem dX8_quickest_229 : decode cX8_quickest 229 = .ok (.aload_n 0, 1) := by decide +kernel
theorem dX8_quickest_230 : decode cX8_quickest 230 = .ok (.getfield 28, 3) := by decide +kernel
theorem dX8_quickest_233 : decode cX8_quickest 233 = .ok (.iconst 0, 1) := by decide +kernel
theorem dX8_quickest_234 : decode cX8_quickest 234 = .ok (.iaload, 1) := by decide +kernel
theorem dX8_quickest_235 : decode cX8_quickest 235 = .ok (.ireturn, 1) := by decide +kernel
theorem dX8_least_0 : decode cX8_least 0 = .ok (.aload_n 0, 1) := by decide +kernel
theorem dX8_least_1 : decode cX8_least 1 = .ok (.iload_n 1, 1) := by decide +kernel
theorem dX8_least_2 : decode cX8_least 2 = .ok (.invokevirtual 179, 3) := by decide +kernel
theorem dX8_least_5 : decode cX8_least 5 = .ok (.ifCond .eq 24, 3) := by decide +kernel
theorem dX8_least_8 : decode cX8_least 8 = .ok (.iload_n 2, 1) := by decide +kernel
theorem dX8_least_9 : decode cX8_least 9 = .ok (.invokestatic 201, 3) := by decide +kernel
theorem dX8_least_12 : decode cX8_least 12 = .ok (.ifCond .eq 17, 3) := by decide +kernel
theorem dX8_least_15 : decode cX8_least 15 = .ok (.iload_n 3, 1) := by decide +kernel
theorem dX8_least_16 : decode cX8_least 16 = .ok (.i2l, 1) := by decide +kernel
theorem dX8_least_17 : decode cX8_least 17 = .ok (.ldc2_w 210, 3) := by decide +kernel
theorem dX8_least_20 : decode cX8_least 20 = .ok (.ldc2_w 80, 3) := by decide +kernel
theorem dX8_least_23 : decode cX8_least 23 = .ok (.invokestatic 73, 3) := by decide +kernel
theorem dX8_least_26 : decode cX8_least 26 = .ok (.ifCond .ne 5, 3) := by decide +kernel
theorem dX8_least_29 : decode cX8_least 29 = .ok (.iconst (-1), 1) := by decide +kernel
theorem dX8_least_30 : decode cX8_least 30 = .ok (.ireturn, 1) := by decide +kernel
theorem dX8_least_31 : decode cX8_least 31 = .ok (.aload_n 0, 1) := by decide +kernel
theorem dX8_least_32 : decode cX8_least 32 = .ok (.getfield 69, 3) := by decide +kernel
theorem dX8_least_35 : decode cX8_least 35 = .ok (.ifCond .eq 11, 3) := by decide +kernel
theorem dX8_least_38 : decode cX8_least 38 = .ok (.iload_n 3, 1) := by decide +kernel
theorem dX8_least_39 : decode cX8_least 39 = .ok (.aload_n 0, 1) := by decide +kernel
theorem dX8_least_40 : decode cX8_least 40 = .ok (.getfield 69, 3) := by decide +kernel
theorem dX8_least_43 : decode cX8_least 43 = .ok (.if_icmp .lt 17, 3) := by decide +kernel
theorem dX8_least_46 : decode cX8_least 46 = .ok (.aload_n 0, 1) := by decide +kernel
theorem dX8_least_47 : decode cX8_least 47 = .ok (.getfield 69, 3) := by decide +kernel
theorem dX8_least_50 : decode cX8_least 50 = .ok (.ifCond .ne 8, 3) := by decide +kernel
theorem dX8_least_53 : decode cX8_least 53 = .ok (.bipush (-2), 2) := by decide +kernel
theorem dX8_least_55 : decode cX8_least 55 = .ok (.goto 4, 3) := by decide +kernel
theorem dX8_least_58 : decode cX8_least 58 = .ok (.iconst (-1), 1) := by decide +kernel
theorem dX8_least_59 : decode cX8_least 59 = .ok (.ireturn, 1) := by decide +kernel
theorem dX8_least_60 : decode cX8_least 60 = .ok (.aload_n 0, 1) := by decide +kernel
theorem dX8_least_61 : decode cX8_least 61 = .ok (.iload_n 1, 1) := by decide +kernel
theorem dX8_least_62 : decode cX8_least 62 = .ok (.iload_n 2, 1) := by decide +kernel
theorem dX8_least_63 : decode cX8_least 63 = .ok (.invokevirtual 212, 3) := by decide +kernel
theorem dX8_least_66 : decode cX8_least 66 = .ok (.istore 4, 2) := by decide +kernel
theorem dX8_least_68 : decode cX8_least 68 = .ok (.iload 4, 2) := by decide +kernel
theorem dX8_least_70 : decode cX8_least 70 = .ok (.ldc 194, 2) := by decide +kernel
theorem dX8_least_72 : decode cX8_least 72 = .ok (.if_icmp .lt 6, 3) := by decide +kernel
theorem dX8_least_75 : decode cX8_least 75 = .ok (.bipush (-4), 2) := by decide +kernel
theorem dX8_least_77 : decode cX8_least 77 = .ok (.ireturn, 1) := by decide +kernel
theorem dX8_least_78 : decode cX8_least 78 = .ok (.iconst 0, 1) := by decide +kernel
theorem dX8_least_79 : decode cX8_least 79 = .ok (.istore 5, 2) := by decide +kernel
theorem dX8_least_81 : decode cX8_least 81 = .ok (.iconst 0, 1) := by decide +kernel
theorem dX8_least_82 : decode cX8_least 82 = .ok (.istore 6, 2) := by decide +kernel
theorem dX8_least_84 : decode cX8_least 84 = .ok (.iload 6, 2) := by decide +kernel
theorem dX8_least_86 : decode cX8_least 86 = .ok (.iload_n 3, 1) := by decide +kernel
theorem dX8_least_87 : decode cX8_least 87 = .ok (.if_icmp .ge 31, 3) := by decide +kernel
theorem dX8_least_90 : decode cX8_least 90 = .ok (.iload 5, 2) := by decide +kernel
theorem dX8_least_92 : decode cX8_least 92 = .ok (.bipush 60, 2) := by decide +kernel
theorem dX8_least_94 : decode cX8_least 94 = .ok (.aload_n 0, 1) := by decide +kernel
theorem dX8_least_95 : decode cX8_least 95 = .ok (.getfield 31, 3) := by decide +kernel
theorem dX8_least_98 : decode cX8_least 98 = .ok (.sipush 961, 3) := by decide +kernel
theorem dX8_least_101 : decode cX8_least 101 = .ok (.iload 6, 2) := by decide +kernel
theorem dX8_least_103 : decode cX8_least 103 = .ok (.imul, 1) := by decide +kernel
theorem dX8_least_104 : decode cX8_least 104 = .ok (.iload 5, 2) := by decide +kernel
theorem dX8_least_106 : decode cX8_least 106 = .ok (.iadd, 1) := by decide +kernel
theorem dX8_least_107 : decode cX8_least 107 = .ok (.iaload, 1) := by decide +kernel
theorem dX8_least_108 : decode cX8_least 108 = .ok (.idiv, 1) := by decide +kernel
theorem dX8_least_109 : decode cX8_least 109 = .ok (.iadd, 1) := by decide +kernel
theorem dX8_least_110 : decode cX8_least 110 = .ok (.istore 5, 2) := by decide +kernel
theorem dX8_least_112 : decode cX8_least 112 = .ok (.iinc 6 1, 3) := by decide +kernel
theorem dX8_least_115 : decode cX8_least 115 = .ok (.goto (-31), 3) := by decide +kernel
theorem dX8_least_118 : decode cX8_least 118 = .ok (.iload_n 3, 1) := by decide +kernel
theorem dX8_least_119 : decode cX8_least 119 = .ok (.ifCond .ge 8, 3) := by decide +kernel
theorem dX8_least_122 : decode cX8_least 122 = .ok (.iload 4, 2) := by decide +kernel
theorem dX8_least_124 : decode cX8_least 124 = .ok (.goto 16, 3) := by decide +kernel
theorem dX8_least_127 : decode cX8_least 127 = .ok (.aload_n 0, 1) := by decide +kernel
theorem dX8_least_128 : decode cX8_least 128 = .ok (.getfield 31, 3) := by decide +kernel
theorem dX8_least_131 : decode cX8_least 131 = .ok (.sipush 961, 3) := by decide +kernel
theorem dX8_least_134 : decode cX8_least 134 = .ok (.iload_n 3, 1) := by decide +kernel
theorem dX8_least_135 : decode cX8_least 135 = .ok (.imul, 1) := by decide +kernel
theorem dX8_least_136 : decode cX8_least 136 = .ok (.iload 5, 2) := by decide +kernel
theorem dX8_least_138 : decode cX8_least 138 = .ok (.iadd, 1) := by decide +kernel
theorem dX8_least_139 : decode cX8_least 139 = .ok (.iaload, 1) := by decide +kernel
theorem dX8_least_140 : decode cX8_least 140 = .ok (.ireturn, 1) := by decide +kernel
theorem dX8_startsOf_0 : decode cX8_startsOf 0 = .ok (.aload_n 0, 1) := by decide +kernel
theorem dX8_startsOf_1 : decode cX8_startsOf 1 = .ok (.iload_n 1, 1) := by decide +kernel
theorem dX8_startsOf_2 : decode cX8_startsOf 2 = .ok (.invokevirtual 185, 3) := by decide +kernel
theorem dX8_startsOf_5 : decode cX8_startsOf 5 = .ok (.istore_n 2, 1) := by decide +kernel
theorem dX8_startsOf_6 : decode cX8_startsOf 6 = .ok (.iconst 0, 1) := by decide +kernel
theorem dX8_startsOf_7 : decode cX8_startsOf 7 = .ok (.istore_n 3, 1) := by decide +kernel
theorem dX8_startsOf_8 : decode cX8_startsOf 8 = .ok (.iload_n 3, 1) := by decide +kernel
theorem dX8_startsOf_9 : decode cX8_startsOf 9 = .ok (.sipush 1440, 3) := by decide +kernel
theorem dX8_startsOf_12 : decode cX8_startsOf 12 = .ok (.if_icmp .ge 16, 3) := by decide +kernel
theorem dX8_startsOf_15 : decode cX8_startsOf 15 = .ok (.aload_n 0, 1) := by decide +kernel
theorem dX8_startsOf_16 : decode cX8_startsOf 16 = .ok (.getfield 34, 3) := by decide +kernel
theorem dX8_startsOf_19 : decode cX8_startsOf 19 = .ok (.iload_n 3, 1) := by decide +kernel
theorem dX8_startsOf_20 : decode cX8_startsOf 20 = .ok (.iconst 1, 1) := by decide +kernel
theorem dX8_startsOf_21 : decode cX8_startsOf 21 = .ok (.bastore, 1) := by decide +kernel
theorem dX8_startsOf_22 : decode cX8_startsOf 22 = .ok (.iinc 3 1, 3) := by decide +kernel
theorem dX8_startsOf_25 : decode cX8_startsOf 25 = .ok (.goto (-17), 3) := by decide +kernel
theorem dX8_startsOf_28 : decode cX8_startsOf 28 = .ok (.aload_n 0, 1) := by decide +kernel
theorem dX8_startsOf_29 : decode cX8_startsOf 29 = .ok (.getfield 69, 3) := by decide +kernel
theorem dX8_startsOf_32 : decode cX8_startsOf 32 = .ok (.iconst 1, 1) := by decide +kernel
theorem dX8_startsOf_33 : decode cX8_startsOf 33 = .ok (.isub, 1) := by decide +kernel
theorem dX8_startsOf_34 : decode cX8_startsOf 34 = .ok (.istore_n 3, 1) := by decide +kernel
theorem dX8_startsOf_35 : decode cX8_startsOf 35 = .ok (.iload_n 3, 1) := by decide +kernel
theorem dX8_startsOf_36 : decode cX8_startsOf 36 = .ok (.ifCond .lt 140, 3) := by decide +kernel
theorem dX8_startsOf_39 : decode cX8_startsOf 39 = .ok (.iconst 0, 1) := by decide +kernel
theorem dX8_startsOf_40 : decode cX8_startsOf 40 = .ok (.istore 4, 2) := by decide +kernel
theorem dX8_startsOf_42 : decode cX8_startsOf 42 = .ok (.iload 4, 2) := by decide +kernel
theorem dX8_startsOf_44 : decode cX8_startsOf 44 = .ok (.sipush 1440, 3) := by decide +kernel
theorem dX8_startsOf_47 : decode cX8_startsOf 47 = .ok (.if_icmp .ge 23, 3) := by decide +kernel
theorem dX8_startsOf_50 : decode cX8_startsOf 50 = .ok (.aload_n 0, 1) := by decide +kernel
theorem dX8_startsOf_51 : decode cX8_startsOf 51 = .ok (.getfield 38, 3) := by decide +kernel
theorem dX8_startsOf_54 : decode cX8_startsOf 54 = .ok (.iload 4, 2) := by decide +kernel
theorem dX8_startsOf_56 : decode cX8_startsOf 56 = .ok (.aload_n 0, 1) := by decide +kernel
theorem dX8_startsOf_57 : decode cX8_startsOf 57 = .ok (.getfield 34, 3) := by decide +kernel
theorem dX8_startsOf_60 : decode cX8_startsOf 60 = .ok (.iload 4, 2) := by decide +kernel
theorem dX8_startsOf_62 : decode cX8_startsOf 62 = .ok (.baload, 1) := by decide +kernel
theorem dX8_startsOf_63 : decode cX8_startsOf 63 = .ok (.bastore, 1) := by decide +kernel
theorem dX8_startsOf_64 : decode cX8_startsOf 64 = .ok (.iinc 4 1, 3) := by decide +kernel
theorem dX8_startsOf_67 : decode cX8_startsOf 67 = .ok (.goto (-25), 3) := by decide +kernel
theorem dX8_startsOf_70 : decode cX8_startsOf 70 = .ok (.iconst 0, 1) := by decide +kernel
theorem dX8_startsOf_71 : decode cX8_startsOf 71 = .ok (.istore 4, 2) := by decide +kernel
theorem dX8_startsOf_73 : decode cX8_startsOf 73 = .ok (.iload 4, 2) := by decide +kernel
theorem dX8_startsOf_75 : decode cX8_startsOf 75 = .ok (.sipush 1440, 3) := by decide +kernel
theorem dX8_startsOf_78 : decode cX8_startsOf 78 = .ok (.if_icmp .ge 92, 3) := by decide +kernel
theorem dX8_startsOf_81 : decode cX8_startsOf 81 = .ok (.aload_n 0, 1) := by decide +kernel
theorem dX8_startsOf_82 : decode cX8_startsOf 82 = .ok (.iload_n 3, 1) := by decide +kernel
theorem dX8_startsOf_83 : decode cX8_startsOf 83 = .ok (.iload 4, 2) := by decide +kernel
theorem dX8_startsOf_85 : decode cX8_startsOf 85 = .ok (.invokevirtual 175, 3) := by decide +kernel
theorem dX8_startsOf_88 : decode cX8_startsOf 88 = .ok (.istore 5, 2) := by decide +kernel
theorem dX8_startsOf_90 : decode cX8_startsOf 90 = .ok (.iconst 0, 1) := by decide +kernel
theorem dX8_startsOf_91 : decode cX8_startsOf 91 = .ok (.istore 6, 2) := by decide +kernel
theorem dX8_startsOf_93 : decode cX8_startsOf 93 = .ok (.iconst 1, 1) := by decide +kernel
theorem dX8_startsOf_94 : decode cX8_startsOf 94 = .ok (.istore 7, 2) := by decide +kernel
theorem dX8_startsOf_96 : decode cX8_startsOf 96 = .ok (.iload 7, 2) := by decide +kernel
theorem dX8_startsOf_98 : decode cX8_startsOf 98 = .ok (.bipush 16, 2) := by decide +kernel
theorem dX8_startsOf_100 : decode cX8_startsOf 100 = .ok (.if_icmp .ge 55, 3) := by decide +kernel
theorem dX8_startsOf_103 : decode cX8_startsOf 103 = .ok (.iload 6, 2) := by decide +kernel
theorem dX8_startsOf_105 : decode cX8_startsOf 105 = .ok (.ifCond .ne 50, 3) := by decide +kernel
theorem dX8_startsOf_108 : decode cX8_startsOf 108 = .ok (.aload_n 0, 1) := by decide +kernel
theorem dX8_startsOf_109 : decode cX8_startsOf 109 = .ok (.iload_n 1, 1) := by decide +kernel
theorem dX8_startsOf_110 : decode cX8_startsOf 110 = .ok (.iload_n 3, 1) := by decide +kernel
theorem dX8_startsOf_111 : decode cX8_startsOf 111 = .ok (.iload 5, 2) := by decide +kernel
theorem dX8_startsOf_113 : decode cX8_startsOf 113 = .ok (.iload 7, 2) := by decide +kernel
theorem dX8_startsOf_115 : decode cX8_startsOf 115 = .ok (.invokevirtual 182, 3) := by decide +kernel
theorem dX8_startsOf_118 : decode cX8_startsOf 118 = .ok (.iload_n 2, 1) := by decide +kernel
theorem dX8_startsOf_119 : decode cX8_startsOf 119 = .ok (.if_icmp .lt 27, 3) := by decide +kernel
theorem dX8_startsOf_122 : decode cX8_startsOf 122 = .ok (.aload_n 0, 1) := by decide +kernel
theorem dX8_startsOf_123 : decode cX8_startsOf 123 = .ok (.getfield 38, 3) := by decide +kernel
theorem dX8_startsOf_126 : decode cX8_startsOf 126 = .ok (.iload 4, 2) := by decide +kernel
theorem dX8_startsOf_128 : decode cX8_startsOf 128 = .ok (.bipush 60, 2) := by decide +kernel
theorem dX8_startsOf_130 : decode cX8_startsOf 130 = .ok (.iload 7, 2) := by decide +kernel
theorem dX8_startsOf_132 : decode cX8_startsOf 132 = .ok (.idiv, 1) := by decide +kernel
theorem dX8_startsOf_133 : decode cX8_startsOf 133 = .ok (.iadd, 1) := by decide +kernel
theorem dX8_startsOf_134 : decode cX8_startsOf 134 = .ok (.sipush 1440, 3) := by decide +kernel
theorem dX8_startsOf_137 : decode cX8_startsOf 137 = .ok (.irem, 1) := by decide +kernel
theorem dX8_startsOf_138 : decode cX8_startsOf 138 = .ok (.baload, 1) := by decide +kernel
theorem dX8_startsOf_139 : decode cX8_startsOf 139 = .ok (.ifCond .eq 7, 3) := by decide +kernel
theorem dX8_startsOf_142 : decode cX8_startsOf 142 = .ok (.iconst 1, 1) := by decide +kernel
theorem dX8_startsOf_143 : decode cX8_startsOf 143 = .ok (.goto 4, 3) := by decide +kernel
theorem dX8_startsOf_146 : decode cX8_startsOf 146 = .ok (.iconst 0, 1) := by decide +kernel
theorem dX8_startsOf_147 : decode cX8_startsOf 147 = .ok (.istore 6, 2) := by decide +kernel
theorem dX8_startsOf_149 : decode cX8_startsOf 149 = .ok (.iinc 7 1, 3) := by decide +kernel
theorem dX8_startsOf_152 : decode cX8_startsOf 152 = .ok (.goto (-56), 3) := by decide +kernel
theorem dX8_startsOf_155 : decode cX8_startsOf 155 = .ok (.aload_n 0, 1) := by decide +kernel
theorem dX8_startsOf_156 : decode cX8_startsOf 156 = .ok (.getfield 34, 3) := by decide +kernel
theorem dX8_startsOf_159 : decode cX8_startsOf 159 = .ok (.iload 4, 2) := by decide +kernel
theorem dX8_startsOf_161 : decode cX8_startsOf 161 = .ok (.iload 6, 2) := by decide +kernel
theorem dX8_startsOf_163 : decode cX8_startsOf 163 = .ok (.bastore, 1) := by decide +kernel
theorem dX8_startsOf_164 : decode cX8_startsOf 164 = .ok (.iinc 4 1, 3) := by decide +kernel
theorem dX8_startsOf_167 : decode cX8_startsOf 167 = .ok (.goto (-94), 3) := by decide +kernel
theorem dX8_startsOf_170 : decode cX8_startsOf 170 = .ok (.iinc 3 (-1), 3) := by decide +kernel
theorem dX8_startsOf_173 : decode cX8_startsOf 173 = .ok (.goto (-138), 3) := by decide +kernel
theorem dX8_startsOf_176 : decode cX8_startsOf 176 = .ok (.return_, 1) := by decide +kernel
theorem dX8_starts_0 : decode cX8_starts 0 = .ok (.aload_n 0, 1) := by decide +kernel
theorem dX8_starts_1 : decode cX8_starts 1 = .ok (.iload_n 1, 1) := by decide +kernel
theorem dX8_starts_2 : decode cX8_starts 2 = .ok (.invokevirtual 179, 3) := by decide +kernel
theorem dX8_starts_5 : decode cX8_starts 5 = .ok (.ifCond .eq 15, 3) := by decide +kernel
theorem dX8_starts_8 : decode cX8_starts 8 = .ok (.iload_n 2, 1) := by decide +kernel
theorem dX8_starts_9 : decode cX8_starts 9 = .ok (.i2l, 1) := by decide +kernel
theorem dX8_starts_10 : decode cX8_starts 10 = .ok (.lconst 0, 1) := by decide +kernel
theorem dX8_starts_11 : decode cX8_starts 11 = .ok (.ldc2_w 215, 3) := by decide +kernel
theorem dX8_starts_14 : decode cX8_starts 14 = .ok (.invokestatic 73, 3) := by decide +kernel
theorem dX8_starts_17 : decode cX8_starts 17 = .ok (.ifCond .ne 5, 3) := by decide +kernel
theorem dX8_starts_20 : decode cX8_starts 20 = .ok (.iconst (-1), 1) := by decide +kernel
theorem dX8_starts_21 : decode cX8_starts 21 = .ok (.ireturn, 1) := by decide +kernel
theorem dX8_starts_22 : decode cX8_starts 22 = .ok (.aload_n 0, 1) := by decide +kernel
theorem dX8_starts_23 : decode cX8_starts 23 = .ok (.getfield 69, 3) := by decide +kernel
theorem dX8_starts_26 : decode cX8_starts 26 = .ok (.ifCond .ne 6, 3) := by decide +kernel
theorem dX8_starts_29 : decode cX8_starts 29 = .ok (.bipush (-2), 2) := by decide +kernel
theorem dX8_starts_31 : decode cX8_starts 31 = .ok (.ireturn, 1) := by decide +kernel
theorem dX8_starts_32 : decode cX8_starts 32 = .ok (.aload_n 0, 1) := by decide +kernel
theorem dX8_starts_33 : decode cX8_starts 33 = .ok (.iload_n 1, 1) := by decide +kernel
theorem dX8_starts_34 : decode cX8_starts 34 = .ok (.invokevirtual 217, 3) := by decide +kernel
theorem dX8_starts_37 : decode cX8_starts 37 = .ok (.iconst 0, 1) := by decide +kernel
theorem dX8_starts_38 : decode cX8_starts 38 = .ok (.istore_n 3, 1) := by decide +kernel
theorem dX8_starts_39 : decode cX8_starts 39 = .ok (.bipush (-4), 2) := by decide +kernel
theorem dX8_starts_41 : decode cX8_starts 41 = .ok (.istore 4, 2) := by decide +kernel
theorem dX8_starts_43 : decode cX8_starts 43 = .ok (.bipush (-4), 2) := by decide +kernel
theorem dX8_starts_45 : decode cX8_starts 45 = .ok (.istore 5, 2) := by decide +kernel
theorem dX8_starts_47 : decode cX8_starts 47 = .ok (.iconst 0, 1) := by decide +kernel
theorem dX8_starts_48 : decode cX8_starts 48 = .ok (.istore 6, 2) := by decide +kernel
theorem dX8_starts_50 : decode cX8_starts 50 = .ok (.iload 6, 2) := by decide +kernel
theorem dX8_starts_52 : decode cX8_starts 52 = .ok (.sipush 1440, 3) := by decide +kernel
theorem dX8_starts_55 : decode cX8_starts 55 = .ok (.if_icmp .ge 70, 3) := by decide +kernel
theorem dX8_starts_58 : decode cX8_starts 58 = .ok (.iload_n 3, 1) := by decide +kernel
theorem dX8_starts_59 : decode cX8_starts 59 = .ok (.aload_n 0, 1) := by decide +kernel
theorem dX8_starts_60 : decode cX8_starts 60 = .ok (.getfield 34, 3) := by decide +kernel
theorem dX8_starts_63 : decode cX8_starts 63 = .ok (.iload 6, 2) := by decide +kernel
theorem dX8_starts_65 : decode cX8_starts 65 = .ok (.baload, 1) := by decide +kernel
theorem dX8_starts_66 : decode cX8_starts 66 = .ok (.ifCond .eq 7, 3) := by decide +kernel
theorem dX8_starts_69 : decode cX8_starts 69 = .ok (.iconst 1, 1) := by decide +kernel
theorem dX8_starts_70 : decode cX8_starts 70 = .ok (.goto 4, 3) := by decide +kernel
theorem dX8_starts_73 : decode cX8_starts 73 = .ok (.iconst 0, 1) := by decide +kernel
theorem dX8_starts_74 : decode cX8_starts 74 = .ok (.iadd, 1) := by decide +kernel
theorem dX8_starts_75 : decode cX8_starts 75 = .ok (.istore_n 3, 1) := by decide +kernel
theorem dX8_starts_76 : decode cX8_starts 76 = .ok (.aload_n 0, 1) := by decide +kernel
theorem dX8_starts_77 : decode cX8_starts 77 = .ok (.getfield 34, 3) := by decide +kernel
theorem dX8_starts_80 : decode cX8_starts 80 = .ok (.iload 6, 2) := by decide +kernel
theorem dX8_starts_82 : decode cX8_starts 82 = .ok (.baload, 1) := by decide +kernel
theorem dX8_starts_83 : decode cX8_starts 83 = .ok (.ifCond .eq 13, 3) := by decide +kernel
theorem dX8_starts_86 : decode cX8_starts 86 = .ok (.iload 4, 2) := by decide +kernel
theorem dX8_starts_88 : decode cX8_starts 88 = .ok (.ifCond .ge 8, 3) := by decide +kernel
theorem dX8_starts_91 : decode cX8_starts 91 = .ok (.iload 6, 2) := by decide +kernel
theorem dX8_starts_93 : decode cX8_starts 93 = .ok (.goto 5, 3) := by decide +kernel
theorem dX8_starts_96 : decode cX8_starts 96 = .ok (.iload 4, 2) := by decide +kernel
theorem dX8_starts_98 : decode cX8_starts 98 = .ok (.istore 4, 2) := by decide +kernel
theorem dX8_starts_100 : decode cX8_starts 100 = .ok (.aload_n 0, 1) := by decide +kernel
theorem dX8_starts_101 : decode cX8_starts 101 = .ok (.getfield 34, 3) := by decide +kernel
theorem dX8_starts_104 : decode cX8_starts 104 = .ok (.iload 6, 2) := by decide +kernel
theorem dX8_starts_106 : decode cX8_starts 106 = .ok (.baload, 1) := by decide +kernel
theorem dX8_starts_107 : decode cX8_starts 107 = .ok (.ifCond .eq 8, 3) := by decide +kernel
theorem dX8_starts_110 : decode cX8_starts 110 = .ok (.iload 6, 2) := by decide +kernel
theorem dX8_starts_112 : decode cX8_starts 112 = .ok (.goto 5, 3) := by decide +kernel
theorem dX8_starts_115 : decode cX8_starts 115 = .ok (.iload 5, 2) := by decide +kernel
theorem dX8_starts_117 : decode cX8_starts 117 = .ok (.istore 5, 2) := by decide +kernel
theorem dX8_starts_119 : decode cX8_starts 119 = .ok (.iinc 6 1, 3) := by decide +kernel
theorem dX8_starts_122 : decode cX8_starts 122 = .ok (.goto (-72), 3) := by decide +kernel
theorem dX8_starts_125 : decode cX8_starts 125 = .ok (.iload_n 2, 1) := by decide +kernel
theorem dX8_starts_126 : decode cX8_starts 126 = .ok (.ifCond .ne 7, 3) := by decide +kernel
theorem dX8_starts_129 : decode cX8_starts 129 = .ok (.iload_n 3, 1) := by decide +kernel
theorem dX8_starts_130 : decode cX8_starts 130 = .ok (.goto 15, 3) := by decide +kernel
theorem dX8_starts_133 : decode cX8_starts 133 = .ok (.iload_n 2, 1) := by decide +kernel
theorem dX8_starts_134 : decode cX8_starts 134 = .ok (.iconst 1, 1) := by decide +kernel
theorem dX8_starts_135 : decode cX8_starts 135 = .ok (.if_icmp .ne 8, 3) := by decide +kernel
theorem dX8_starts_138 : decode cX8_starts 138 = .ok (.iload 4, 2) := by decide +kernel
theorem dX8_starts_140 : decode cX8_starts 140 = .ok (.goto 5, 3) := by decide +kernel
theorem dX8_starts_143 : decode cX8_starts 143 = .ok (.iload 5, 2) := by decide +kernel
theorem dX8_starts_145 : decode cX8_starts 145 = .ok (.ireturn, 1) := by decide +kernel
theorem dX8_deepest_0 : decode cX8_deepest 0 = .ok (.aload_n 0, 1) := by decide +kernel
theorem dX8_deepest_1 : decode cX8_deepest 1 = .ok (.iload_n 1, 1) := by decide +kernel
theorem dX8_deepest_2 : decode cX8_deepest 2 = .ok (.invokevirtual 179, 3) := by decide +kernel
theorem dX8_deepest_5 : decode cX8_deepest 5 = .ok (.ifCond .eq 10, 3) := by decide +kernel
theorem dX8_deepest_8 : decode cX8_deepest 8 = .ok (.iload_n 2, 1) := by decide +kernel
theorem dX8_deepest_9 : decode cX8_deepest 9 = .ok (.invokestatic 201, 3) := by decide +kernel
theorem dX8_deepest_12 : decode cX8_deepest 12 = .ok (.ifCond .ne 5, 3) := by decide +kernel
theorem dX8_deepest_15 : decode cX8_deepest 15 = .ok (.iconst (-1), 1) := by decide +kernel
theorem dX8_deepest_16 : decode cX8_deepest 16 = .ok (.ireturn, 1) := by decide +kernel
theorem dX8_deepest_17 : decode cX8_deepest 17 = .ok (.aload_n 0, 1) := by decide +kernel
theorem dX8_deepest_18 : decode cX8_deepest 18 = .ok (.getfield 69, 3) := by decide +kernel
theorem dX8_deepest_21 : decode cX8_deepest 21 = .ok (.ifCond .ne 6, 3) := by decide +kernel
theorem dX8_deepest_24 : decode cX8_deepest 24 = .ok (.bipush (-2), 2) := by decide +kernel
theorem dX8_deepest_26 : decode cX8_deepest 26 = .ok (.ireturn, 1) := by decide +kernel
theorem dX8_deepest_27 : decode cX8_deepest 27 = .ok (.aload_n 0, 1) := by decide +kernel
theorem dX8_deepest_28 : decode cX8_deepest 28 = .ok (.getfield 19, 3) := by decide +kernel
theorem dX8_deepest_31 : decode cX8_deepest 31 = .ok (.iconst 3, 1) := by decide +kernel
theorem dX8_deepest_32 : decode cX8_deepest 32 = .ok (.iload_n 1, 1) := by decide +kernel
theorem dX8_deepest_33 : decode cX8_deepest 33 = .ok (.imul, 1) := by decide +kernel
theorem dX8_deepest_34 : decode cX8_deepest 34 = .ok (.iaload, 1) := by decide +kernel
theorem dX8_deepest_35 : decode cX8_deepest 35 = .ok (.istore_n 3, 1) := by decide +kernel
theorem dX8_deepest_36 : decode cX8_deepest 36 = .ok (.bipush 19, 2) := by decide +kernel
theorem dX8_deepest_38 : decode cX8_deepest 38 = .ok (.istore 4, 2) := by decide +kernel
theorem dX8_deepest_40 : decode cX8_deepest 40 = .ok (.sipush 201, 3) := by decide +kernel
theorem dX8_deepest_43 : decode cX8_deepest 43 = .ok (.istore 5, 2) := by decide +kernel
theorem dX8_deepest_45 : decode cX8_deepest 45 = .ok (.iload 5, 2) := by decide +kernel
theorem dX8_deepest_47 : decode cX8_deepest 47 = .ok (.iload 4, 2) := by decide +kernel
theorem dX8_deepest_49 : decode cX8_deepest 49 = .ok (.isub, 1) := by decide +kernel
theorem dX8_deepest_50 : decode cX8_deepest 50 = .ok (.iconst 1, 1) := by decide +kernel
theorem dX8_deepest_51 : decode cX8_deepest 51 = .ok (.if_icmp .le 71, 3) := by decide +kernel
theorem dX8_deepest_54 : decode cX8_deepest 54 = .ok (.iload 4, 2) := by decide +kernel
theorem dX8_deepest_56 : decode cX8_deepest 56 = .ok (.iload 5, 2) := by decide +kernel
theorem dX8_deepest_58 : decode cX8_deepest 58 = .ok (.iadd, 1) := by decide +kernel
theorem dX8_deepest_59 : decode cX8_deepest 59 = .ok (.iconst 2, 1) := by decide +kernel
theorem dX8_deepest_60 : decode cX8_deepest 60 = .ok (.idiv, 1) := by decide +kernel
theorem dX8_deepest_61 : decode cX8_deepest 61 = .ok (.istore 6, 2) := by decide +kernel
theorem dX8_deepest_63 : decode cX8_deepest 63 = .ok (.aload_n 0, 1) := by decide +kernel
theorem dX8_deepest_64 : decode cX8_deepest 64 = .ok (.getfield 19, 3) := by decide +kernel
theorem dX8_deepest_67 : decode cX8_deepest 67 = .ok (.iconst 3, 1) := by decide +kernel
theorem dX8_deepest_68 : decode cX8_deepest 68 = .ok (.iload_n 1, 1) := by decide +kernel
theorem dX8_deepest_69 : decode cX8_deepest 69 = .ok (.imul, 1) := by decide +kernel
theorem dX8_deepest_70 : decode cX8_deepest 70 = .ok (.iload 6, 2) := by decide +kernel
theorem dX8_deepest_72 : decode cX8_deepest 72 = .ok (.iastore, 1) := by decide +kernel
theorem dX8_deepest_73 : decode cX8_deepest 73 = .ok (.aload_n 0, 1) := by decide +kernel
theorem dX8_deepest_74 : decode cX8_deepest 74 = .ok (.iload_n 1, 1) := by decide +kernel
theorem dX8_deepest_75 : decode cX8_deepest 75 = .ok (.iload_n 2, 1) := by decide +kernel
theorem dX8_deepest_76 : decode cX8_deepest 76 = .ok (.invokevirtual 212, 3) := by decide +kernel
theorem dX8_deepest_79 : decode cX8_deepest 79 = .ok (.ldc 194, 2) := by decide +kernel
theorem dX8_deepest_81 : decode cX8_deepest 81 = .ok (.if_icmp .ge 7, 3) := by decide +kernel
theorem dX8_deepest_84 : decode cX8_deepest 84 = .ok (.iconst 1, 1) := by decide +kernel
theorem dX8_deepest_85 : decode cX8_deepest 85 = .ok (.goto 4, 3) := by decide +kernel
theorem dX8_deepest_88 : decode cX8_deepest 88 = .ok (.iconst 0, 1) := by decide +kernel
theorem dX8_deepest_89 : decode cX8_deepest 89 = .ok (.istore 7, 2) := by decide +kernel
theorem dX8_deepest_91 : decode cX8_deepest 91 = .ok (.iload 7, 2) := by decide +kernel
theorem dX8_deepest_93 : decode cX8_deepest 93 = .ok (.ifCond .eq 8, 3) := by decide +kernel
theorem dX8_deepest_96 : decode cX8_deepest 96 = .ok (.iload 6, 2) := by decide +kernel
theorem dX8_deepest_98 : decode cX8_deepest 98 = .ok (.goto 5, 3) := by decide +kernel
theorem dX8_deepest_101 : decode cX8_deepest 101 = .ok (.iload 4, 2) := by decide +kernel
theorem dX8_deepest_103 : decode cX8_deepest 103 = .ok (.istore 4, 2) := by decide +kernel
theorem dX8_deepest_105 : decode cX8_deepest 105 = .ok (.iload 7, 2) := by decide +kernel
theorem dX8_deepest_107 : decode cX8_deepest 107 = .ok (.ifCond .eq 8, 3) := by decide +kernel
theorem dX8_deepest_110 : decode cX8_deepest 110 = .ok (.iload 5, 2) := by decide +kernel
theorem dX8_deepest_112 : decode cX8_deepest 112 = .ok (.goto 5, 3) := by decide +kernel
theorem dX8_deepest_115 : decode cX8_deepest 115 = .ok (.iload 6, 2) := by decide +kernel
theorem dX8_deepest_117 : decode cX8_deepest 117 = .ok (.istore 5, 2) := by decide +kernel
theorem dX8_deepest_119 : decode cX8_deepest 119 = .ok (.goto (-74), 3) := by decide +kernel
theorem dX8_deepest_122 : decode cX8_deepest 122 = .ok (.aload_n 0, 1) := by decide +kernel
theorem dX8_deepest_123 : decode cX8_deepest 123 = .ok (.getfield 19, 3) := by decide +kernel
theorem dX8_deepest_126 : decode cX8_deepest 126 = .ok (.iconst 3, 1) := by decide +kernel
theorem dX8_deepest_127 : decode cX8_deepest 127 = .ok (.iload_n 1, 1) := by decide +kernel
theorem dX8_deepest_128 : decode cX8_deepest 128 = .ok (.imul, 1) := by decide +kernel
theorem dX8_deepest_129 : decode cX8_deepest 129 = .ok (.iload_n 3, 1) := by decide +kernel
theorem dX8_deepest_130 : decode cX8_deepest 130 = .ok (.iastore, 1) := by decide +kernel
theorem dX8_deepest_131 : decode cX8_deepest 131 = .ok (.iload 4, 2) := by decide +kernel
theorem dX8_deepest_133 : decode cX8_deepest 133 = .ok (.bipush 19, 2) := by decide +kernel
theorem dX8_deepest_135 : decode cX8_deepest 135 = .ok (.if_icmp .ne 8, 3) := by decide +kernel
theorem dX8_deepest_138 : decode cX8_deepest 138 = .ok (.bipush (-4), 2) := by decide +kernel
theorem dX8_deepest_140 : decode cX8_deepest 140 = .ok (.goto 5, 3) := by decide +kernel
theorem dX8_deepest_143 : decode cX8_deepest 143 = .ok (.iload 4, 2) := by decide +kernel
theorem dX8_deepest_145 : decode cX8_deepest 145 = .ok (.ireturn, 1) := by decide +kernel
theorem dX8_holds_0 : decode cX8_holds 0 = .ok (.iload_n 2, 1) := by decide +kernel
theorem dX8_holds_1 : decode cX8_holds 1 = .ok (.iconst 4, 1) := by decide +kernel
theorem dX8_holds_2 : decode cX8_holds 2 = .ok (.if_icmp .ge 18, 3) := by decide +kernel
theorem dX8_holds_5 : decode cX8_holds 5 = .ok (.aload_n 0, 1) := by decide +kernel
theorem dX8_holds_6 : decode cX8_holds 6 = .ok (.getfield 19, 3) := by decide +kernel
theorem dX8_holds_9 : decode cX8_holds 9 = .ok (.iconst 3, 1) := by decide +kernel
theorem dX8_holds_10 : decode cX8_holds 10 = .ok (.iload_n 1, 1) := by decide +kernel
theorem dX8_holds_11 : decode cX8_holds 11 = .ok (.imul, 1) := by decide +kernel
theorem dX8_holds_12 : decode cX8_holds 12 = .ok (.iconst 2, 1) := by decide +kernel
theorem dX8_holds_13 : decode cX8_holds 13 = .ok (.iadd, 1) := by decide +kernel
theorem dX8_holds_14 : decode cX8_holds 14 = .ok (.iaload, 1) := by decide +kernel
theorem dX8_holds_15 : decode cX8_holds 15 = .ok (.iconst 2, 1) := by decide +kernel
theorem dX8_holds_16 : decode cX8_holds 16 = .ok (.idiv, 1) := by decide +kernel
theorem dX8_holds_17 : decode cX8_holds 17 = .ok (.goto 13, 3) := by decide +kernel
theorem dX8_holds_20 : decode cX8_holds 20 = .ok (.aload_n 0, 1) := by decide +kernel
theorem dX8_holds_21 : decode cX8_holds 21 = .ok (.getfield 19, 3) := by decide +kernel
theorem dX8_holds_24 : decode cX8_holds 24 = .ok (.iconst 3, 1) := by decide +kernel
theorem dX8_holds_25 : decode cX8_holds 25 = .ok (.iload_n 1, 1) := by decide +kernel
theorem dX8_holds_26 : decode cX8_holds 26 = .ok (.imul, 1) := by decide +kernel
theorem dX8_holds_27 : decode cX8_holds 27 = .ok (.iconst 2, 1) := by decide +kernel
theorem dX8_holds_28 : decode cX8_holds 28 = .ok (.iadd, 1) := by decide +kernel
theorem dX8_holds_29 : decode cX8_holds 29 = .ok (.iaload, 1) := by decide +kernel
theorem dX8_holds_30 : decode cX8_holds 30 = .ok (.istore 4, 2) := by decide +kernel
theorem dX8_holds_32 : decode cX8_holds 32 = .ok (.iload_n 2, 1) := by decide +kernel
theorem dX8_holds_33 : decode cX8_holds 33 = .ok (.iload_n 2, 1) := by decide +kernel
theorem dX8_holds_34 : decode cX8_holds 34 = .ok (.imul, 1) := by decide +kernel
theorem dX8_holds_35 : decode cX8_holds 35 = .ok (.aload_n 0, 1) := by decide +kernel
theorem dX8_holds_36 : decode cX8_holds 36 = .ok (.getfield 19, 3) := by decide +kernel
theorem dX8_holds_39 : decode cX8_holds 39 = .ok (.iconst 3, 1) := by decide +kernel
theorem dX8_holds_40 : decode cX8_holds 40 = .ok (.iload_n 1, 1) := by decide +kernel
theorem dX8_holds_41 : decode cX8_holds 41 = .ok (.imul, 1) := by decide +kernel
theorem dX8_holds_42 : decode cX8_holds 42 = .ok (.iconst 1, 1) := by decide +kernel
theorem dX8_holds_43 : decode cX8_holds 43 = .ok (.iadd, 1) := by decide +kernel
theorem dX8_holds_44 : decode cX8_holds 44 = .ok (.iaload, 1) := by decide +kernel
theorem dX8_holds_45 : decode cX8_holds 45 = .ok (.imul, 1) := by decide +kernel
theorem dX8_holds_46 : decode cX8_holds 46 = .ok (.iload_n 3, 1) := by decide +kernel
theorem dX8_holds_47 : decode cX8_holds 47 = .ok (.iload_n 3, 1) := by decide +kernel
theorem dX8_holds_48 : decode cX8_holds 48 = .ok (.imul, 1) := by decide +kernel
theorem dX8_holds_49 : decode cX8_holds 49 = .ok (.idiv, 1) := by decide +kernel
theorem dX8_holds_50 : decode cX8_holds 50 = .ok (.iload 4, 2) := by decide +kernel
theorem dX8_holds_52 : decode cX8_holds 52 = .ok (.if_icmp .gt 7, 3) := by decide +kernel
theorem dX8_holds_55 : decode cX8_holds 55 = .ok (.iconst 1, 1) := by decide +kernel
theorem dX8_holds_56 : decode cX8_holds 56 = .ok (.goto 4, 3) := by decide +kernel
theorem dX8_holds_59 : decode cX8_holds 59 = .ok (.iconst 0, 1) := by decide +kernel
theorem dX8_holds_60 : decode cX8_holds 60 = .ok (.ireturn, 1) := by decide +kernel
theorem dX8_bank_0 : decode cX8_bank 0 = .ok (.aload_n 0, 1) := by decide +kernel
theorem dX8_bank_1 : decode cX8_bank 1 = .ok (.iload_n 1, 1) := by decide +kernel
theorem dX8_bank_2 : decode cX8_bank 2 = .ok (.invokevirtual 179, 3) := by decide +kernel
theorem dX8_bank_5 : decode cX8_bank 5 = .ok (.ifCond .eq 22, 3) := by decide +kernel
theorem dX8_bank_8 : decode cX8_bank 8 = .ok (.iload_n 2, 1) := by decide +kernel
theorem dX8_bank_9 : decode cX8_bank 9 = .ok (.invokestatic 119, 3) := by decide +kernel
theorem dX8_bank_12 : decode cX8_bank 12 = .ok (.ifCond .eq 15, 3) := by decide +kernel
theorem dX8_bank_15 : decode cX8_bank 15 = .ok (.iload_n 3, 1) := by decide +kernel
theorem dX8_bank_16 : decode cX8_bank 16 = .ok (.i2l, 1) := by decide +kernel
theorem dX8_bank_17 : decode cX8_bank 17 = .ok (.lconst 1, 1) := by decide +kernel
theorem dX8_bank_18 : decode cX8_bank 18 = .ok (.ldc2_w 90, 3) := by decide +kernel
theorem dX8_bank_21 : decode cX8_bank 21 = .ok (.invokestatic 73, 3) := by decide +kernel
theorem dX8_bank_24 : decode cX8_bank 24 = .ok (.ifCond .ne 5, 3) := by decide +kernel
theorem dX8_bank_27 : decode cX8_bank 27 = .ok (.iconst (-1), 1) := by decide +kernel
theorem dX8_bank_28 : decode cX8_bank 28 = .ok (.ireturn, 1) := by decide +kernel
theorem dX8_bank_29 : decode cX8_bank 29 = .ok (.aload_n 0, 1) := by decide +kernel
theorem dX8_bank_30 : decode cX8_bank 30 = .ok (.iload_n 1, 1) := by decide +kernel
theorem dX8_bank_31 : decode cX8_bank 31 = .ok (.iload_n 2, 1) := by decide +kernel
theorem dX8_bank_32 : decode cX8_bank 32 = .ok (.iload_n 3, 1) := by decide +kernel
theorem dX8_bank_33 : decode cX8_bank 33 = .ok (.invokevirtual 220, 3) := by decide +kernel
theorem dX8_bank_36 : decode cX8_bank 36 = .ok (.ifCond .eq 7, 3) := by decide +kernel
theorem dX8_bank_39 : decode cX8_bank 39 = .ok (.iconst 1, 1) := by decide +kernel
theorem dX8_bank_40 : decode cX8_bank 40 = .ok (.goto 4, 3) := by decide +kernel
theorem dX8_bank_43 : decode cX8_bank 43 = .ok (.iconst 0, 1) := by decide +kernel
theorem dX8_bank_44 : decode cX8_bank 44 = .ok (.ireturn, 1) := by decide +kernel
theorem dX8_nearest_0 : decode cX8_nearest 0 = .ok (.aload_n 0, 1) := by decide +kernel
theorem dX8_nearest_1 : decode cX8_nearest 1 = .ok (.iload_n 1, 1) := by decide +kernel
theorem dX8_nearest_2 : decode cX8_nearest 2 = .ok (.invokevirtual 179, 3) := by decide +kernel
theorem dX8_nearest_5 : decode cX8_nearest 5 = .ok (.ifCond .eq 10, 3) := by decide +kernel
theorem dX8_nearest_8 : decode cX8_nearest 8 = .ok (.iload_n 2, 1) := by decide +kernel
theorem dX8_nearest_9 : decode cX8_nearest 9 = .ok (.invokestatic 119, 3) := by decide +kernel
theorem dX8_nearest_12 : decode cX8_nearest 12 = .ok (.ifCond .ne 5, 3) := by decide +kernel
theorem dX8_nearest_15 : decode cX8_nearest 15 = .ok (.iconst (-1), 1) := by decide +kernel
theorem dX8_nearest_16 : decode cX8_nearest 16 = .ok (.ireturn, 1) := by decide +kernel
theorem dX8_nearest_17 : decode cX8_nearest 17 = .ok (.bipush (-4), 2) := by decide +kernel
theorem dX8_nearest_19 : decode cX8_nearest 19 = .ok (.istore_n 3, 1) := by decide +kernel
theorem dX8_nearest_20 : decode cX8_nearest 20 = .ok (.bipush 99, 2) := by decide +kernel
theorem dX8_nearest_22 : decode cX8_nearest 22 = .ok (.istore 4, 2) := by decide +kernel
theorem dX8_nearest_24 : decode cX8_nearest 24 = .ok (.iload 4, 2) := by decide +kernel
theorem dX8_nearest_26 : decode cX8_nearest 26 = .ok (.ifCond .le 27, 3) := by decide +kernel
theorem dX8_nearest_29 : decode cX8_nearest 29 = .ok (.aload_n 0, 1) := by decide +kernel
theorem dX8_nearest_30 : decode cX8_nearest 30 = .ok (.iload_n 1, 1) := by decide +kernel
theorem dX8_nearest_31 : decode cX8_nearest 31 = .ok (.iload_n 2, 1) := by decide +kernel
theorem dX8_nearest_32 : decode cX8_nearest 32 = .ok (.iload 4, 2) := by decide +kernel
theorem dX8_nearest_34 : decode cX8_nearest 34 = .ok (.invokevirtual 220, 3) := by decide +kernel
theorem dX8_nearest_37 : decode cX8_nearest 37 = .ok (.ifCond .eq 8, 3) := by decide +kernel
theorem dX8_nearest_40 : decode cX8_nearest 40 = .ok (.iload 4, 2) := by decide +kernel
theorem dX8_nearest_42 : decode cX8_nearest 42 = .ok (.goto 4, 3) := by decide +kernel
theorem dX8_nearest_45 : decode cX8_nearest 45 = .ok (.iload_n 3, 1) := by decide +kernel
theorem dX8_nearest_46 : decode cX8_nearest 46 = .ok (.istore_n 3, 1) := by decide +kernel
theorem dX8_nearest_47 : decode cX8_nearest 47 = .ok (.iinc 4 (-1), 3) := by decide +kernel
theorem dX8_nearest_50 : decode cX8_nearest 50 = .ok (.goto (-26), 3) := by decide +kernel
theorem dX8_nearest_53 : decode cX8_nearest 53 = .ok (.iload_n 3, 1) := by decide +kernel
theorem dX8_nearest_54 : decode cX8_nearest 54 = .ok (.ireturn, 1) := by decide +kernel
theorem dX8_steered_0 : decode cX8_steered 0 = .ok (.iload_n 1, 1) := by decide +kernel
theorem dX8_steered_1 : decode cX8_steered 1 = .ok (.i2l, 1) := by decide +kernel
theorem dX8_steered_2 : decode cX8_steered 2 = .ok (.lconst 0, 1) := by decide +kernel
theorem dX8_steered_3 : decode cX8_steered 3 = .ok (.ldc2_w 92, 3) := by decide +kernel
theorem dX8_steered_6 : decode cX8_steered 6 = .ok (.invokestatic 73, 3) := by decide +kernel
theorem dX8_steered_9 : decode cX8_steered 9 = .ok (.ifCond .eq 15, 3) := by decide +kernel
theorem dX8_steered_12 : decode cX8_steered 12 = .ok (.iload_n 2, 1) := by decide +kernel
theorem dX8_steered_13 : decode cX8_steered 13 = .ok (.i2l, 1) := by decide +kernel
theorem dX8_steered_14 : decode cX8_steered 14 = .ok (.lconst 0, 1) := by decide +kernel
theorem dX8_steered_15 : decode cX8_steered 15 = .ok (.ldc2_w 108, 3) := by decide +kernel
theorem dX8_steered_18 : decode cX8_steered 18 = .ok (.invokestatic 73, 3) := by decide +kernel
theorem dX8_steered_21 : decode cX8_steered 21 = .ok (.ifCond .ne 5, 3) := by decide +kernel
theorem dX8_steered_24 : decode cX8_steered 24 = .ok (.iconst (-1), 1) := by decide +kernel
theorem dX8_steered_25 : decode cX8_steered 25 = .ok (.ireturn, 1) := by decide +kernel
theorem dX8_steered_26 : decode cX8_steered 26 = .ok (.aload_n 0, 1) := by decide +kernel
theorem dX8_steered_27 : decode cX8_steered 27 = .ok (.getfield 41, 3) := by decide +kernel
theorem dX8_steered_30 : decode cX8_steered 30 = .ok (.iconst 0, 1) := by decide +kernel
theorem dX8_steered_31 : decode cX8_steered 31 = .ok (.ldc2_w 122, 3) := by decide +kernel
theorem dX8_steered_34 : decode cX8_steered 34 = .ok (.lastore, 1) := by decide +kernel
theorem dX8_steered_35 : decode cX8_steered 35 = .ok (.lconst 0, 1) := by decide +kernel
theorem dX8_steered_36 : decode cX8_steered 36 = .ok (.lstore_n 3, 1) := by decide +kernel
theorem dX8_steered_37 : decode cX8_steered 37 = .ok (.iconst 1, 1) := by decide +kernel
theorem dX8_steered_38 : decode cX8_steered 38 = .ok (.istore 5, 2) := by decide +kernel
theorem dX8_steered_40 : decode cX8_steered 40 = .ok (.iload 5, 2) := by decide +kernel
theorem dX8_steered_42 : decode cX8_steered 42 = .ok (.bipush 61, 2) := by decide +kernel
theorem dX8_steered_44 : decode cX8_steered 44 = .ok (.if_icmp .ge 134, 3) := by decide +kernel
theorem dX8_steered_47 : decode cX8_steered 47 = .ok (.iload 5, 2) := by decide +kernel
theorem dX8_steered_49 : decode cX8_steered 49 = .ok (.iload_n 2, 1) := by decide +kernel
theorem dX8_steered_50 : decode cX8_steered 50 = .ok (.isub, 1) := by decide +kernel
theorem dX8_steered_51 : decode cX8_steered 51 = .ok (.iconst 1, 1) := by decide +kernel
theorem dX8_steered_52 : decode cX8_steered 52 = .ok (.isub, 1) := by decide +kernel
theorem dX8_steered_53 : decode cX8_steered 53 = .ok (.istore 6, 2) := by decide +kernel
theorem dX8_steered_55 : decode cX8_steered 55 = .ok (.lload_n 3, 1) := by decide +kernel
theorem dX8_steered_56 : decode cX8_steered 56 = .ok (.iload_n 1, 1) := by decide +kernel
theorem dX8_steered_57 : decode cX8_steered 57 = .ok (.i2l, 1) := by decide +kernel
theorem dX8_steered_58 : decode cX8_steered 58 = .ok (.aload_n 0, 1) := by decide +kernel
theorem dX8_steered_59 : decode cX8_steered 59 = .ok (.getfield 41, 3) := by decide +kernel
theorem dX8_steered_62 : decode cX8_steered 62 = .ok (.iload 6, 2) := by decide +kernel
theorem dX8_steered_64 : decode cX8_steered 64 = .ok (.ifCond .ge 7, 3) := by decide +kernel
theorem dX8_steered_67 : decode cX8_steered 67 = .ok (.iconst 0, 1) := by decide +kernel
theorem dX8_steered_68 : decode cX8_steered 68 = .ok (.goto 5, 3) := by decide +kernel
theorem dX8_steered_71 : decode cX8_steered 71 = .ok (.iload 6, 2) := by decide +kernel
theorem dX8_steered_73 : decode cX8_steered 73 = .ok (.laload, 1) := by decide +kernel
theorem dX8_steered_74 : decode cX8_steered 74 = .ok (.lmul, 1) := by decide +kernel
theorem dX8_steered_75 : decode cX8_steered 75 = .ok (.ldc2_w 224, 3) := by decide +kernel
theorem dX8_steered_78 : decode cX8_steered 78 = .ok (.ldiv, 1) := by decide +kernel
theorem dX8_steered_79 : decode cX8_steered 79 = .ok (.lsub, 1) := by decide +kernel
theorem dX8_steered_80 : decode cX8_steered 80 = .ok (.lstore_n 3, 1) := by decide +kernel
theorem dX8_steered_81 : decode cX8_steered 81 = .ok (.lload_n 3, 1) := by decide +kernel
theorem dX8_steered_82 : decode cX8_steered 82 = .ok (.aload_n 0, 1) := by decide +kernel
theorem dX8_steered_83 : decode cX8_steered 83 = .ok (.getfield 41, 3) := by decide +kernel
theorem dX8_steered_86 : decode cX8_steered 86 = .ok (.iload 5, 2) := by decide +kernel
theorem dX8_steered_88 : decode cX8_steered 88 = .ok (.iconst 1, 1) := by decide +kernel
theorem dX8_steered_89 : decode cX8_steered 89 = .ok (.isub, 1) := by decide +kernel
theorem dX8_steered_90 : decode cX8_steered 90 = .ok (.laload, 1) := by decide +kernel
theorem dX8_steered_91 : decode cX8_steered 91 = .ok (.lconst 0, 1) := by decide +kernel
theorem dX8_steered_92 : decode cX8_steered 92 = .ok (.lcmp, 1) := by decide +kernel
theorem dX8_steered_93 : decode cX8_steered 93 = .ok (.ifCond .le 7, 3) := by decide +kernel
theorem dX8_steered_96 : decode cX8_steered 96 = .ok (.lconst 1, 1) := by decide +kernel
theorem dX8_steered_97 : decode cX8_steered 97 = .ok (.goto 24, 3) := by decide +kernel
theorem dX8_steered_100 : decode cX8_steered 100 = .ok (.aload_n 0, 1) := by decide +kernel
theorem dX8_steered_101 : decode cX8_steered 101 = .ok (.getfield 41, 3) := by decide +kernel
theorem dX8_steered_104 : decode cX8_steered 104 = .ok (.iload 5, 2) := by decide +kernel
theorem dX8_steered_106 : decode cX8_steered 106 = .ok (.iconst 1, 1) := by decide +kernel
theorem dX8_steered_107 : decode cX8_steered 107 = .ok (.isub, 1) := by decide +kernel
theorem dX8_steered_108 : decode cX8_steered 108 = .ok (.laload, 1) := by decide +kernel
theorem dX8_steered_109 : decode cX8_steered 109 = .ok (.lconst 0, 1) := by decide +kernel
theorem dX8_steered_110 : decode cX8_steered 110 = .ok (.lcmp, 1) := by decide +kernel
theorem dX8_steered_111 : decode cX8_steered 111 = .ok (.ifCond .ge 9, 3) := by decide +kernel
theorem dX8_steered_114 : decode cX8_steered 114 = .ok (.ldc2_w 210, 3) := by decide +kernel
theorem dX8_steered_117 : decode cX8_steered 117 = .ok (.goto 4, 3) := by decide +kernel
theorem dX8_steered_120 : decode cX8_steered 120 = .ok (.lconst 0, 1) := by decide +kernel
theorem dX8_steered_121 : decode cX8_steered 121 = .ok (.ladd, 1) := by decide +kernel
theorem dX8_steered_122 : decode cX8_steered 122 = .ok (.lstore_n 3, 1) := by decide +kernel
theorem dX8_steered_123 : decode cX8_steered 123 = .ok (.aload_n 0, 1) := by decide +kernel
theorem dX8_steered_124 : decode cX8_steered 124 = .ok (.getfield 41, 3) := by decide +kernel
theorem dX8_steered_127 : decode cX8_steered 127 = .ok (.iload 5, 2) := by decide +kernel
theorem dX8_steered_129 : decode cX8_steered 129 = .ok (.aload_n 0, 1) := by decide +kernel
theorem dX8_steered_130 : decode cX8_steered 130 = .ok (.getfield 41, 3) := by decide +kernel
theorem dX8_steered_133 : decode cX8_steered 133 = .ok (.iload 5, 2) := by decide +kernel
theorem dX8_steered_135 : decode cX8_steered 135 = .ok (.iconst 1, 1) := by decide +kernel
theorem dX8_steered_136 : decode cX8_steered 136 = .ok (.isub, 1) := by decide +kernel
theorem dX8_steered_137 : decode cX8_steered 137 = .ok (.laload, 1) := by decide +kernel
theorem dX8_steered_138 : decode cX8_steered 138 = .ok (.lload_n 3, 1) := by decide +kernel
theorem dX8_steered_139 : decode cX8_steered 139 = .ok (.ladd, 1) := by decide +kernel
theorem dX8_steered_140 : decode cX8_steered 140 = .ok (.lastore, 1) := by decide +kernel
theorem dX8_steered_141 : decode cX8_steered 141 = .ok (.aload_n 0, 1) := by decide +kernel
theorem dX8_steered_142 : decode cX8_steered 142 = .ok (.getfield 41, 3) := by decide +kernel
theorem dX8_steered_145 : decode cX8_steered 145 = .ok (.iload 5, 2) := by decide +kernel
theorem dX8_steered_147 : decode cX8_steered 147 = .ok (.laload, 1) := by decide +kernel
theorem dX8_steered_148 : decode cX8_steered 148 = .ok (.ldc2_w 94, 3) := by decide +kernel
theorem dX8_steered_151 : decode cX8_steered 151 = .ok (.lcmp, 1) := by decide +kernel
theorem dX8_steered_152 : decode cX8_steered 152 = .ok (.ifCond .ge 17, 3) := by decide +kernel
theorem dX8_steered_155 : decode cX8_steered 155 = .ok (.aload_n 0, 1) := by decide +kernel
theorem dX8_steered_156 : decode cX8_steered 156 = .ok (.getfield 41, 3) := by decide +kernel
theorem dX8_steered_159 : decode cX8_steered 159 = .ok (.iload 5, 2) := by decide +kernel
theorem dX8_steered_161 : decode cX8_steered 161 = .ok (.laload, 1) := by decide +kernel
theorem dX8_steered_162 : decode cX8_steered 162 = .ok (.ldc2_w 226, 3) := by decide +kernel
theorem dX8_steered_165 : decode cX8_steered 165 = .ok (.lcmp, 1) := by decide +kernel
theorem dX8_steered_166 : decode cX8_steered 166 = .ok (.ifCond .gt 6, 3) := by decide +kernel
theorem dX8_steered_169 : decode cX8_steered 169 = .ok (.iload 5, 2) := by decide +kernel
theorem dX8_steered_171 : decode cX8_steered 171 = .ok (.ireturn, 1) := by decide +kernel
theorem dX8_steered_172 : decode cX8_steered 172 = .ok (.iinc 5 1, 3) := by decide +kernel
theorem dX8_steered_175 : decode cX8_steered 175 = .ok (.goto (-135), 3) := by decide +kernel
theorem dX8_steered_178 : decode cX8_steered 178 = .ok (.iconst 0, 1) := by decide +kernel
theorem dX8_steered_179 : decode cX8_steered 179 = .ok (.ireturn, 1) := by decide +kernel
theorem dX8_may_0 : decode cX8_may 0 = .ok (.aload_n 0, 1) := by decide +kernel
theorem dX8_may_1 : decode cX8_may 1 = .ok (.iload_n 1, 1) := by decide +kernel
theorem dX8_may_2 : decode cX8_may 2 = .ok (.invokevirtual 179, 3) := by decide +kernel
theorem dX8_may_5 : decode cX8_may 5 = .ok (.ifCond .eq 40, 3) := by decide +kernel
theorem dX8_may_8 : decode cX8_may 8 = .ok (.aload_n 0, 1) := by decide +kernel
theorem dX8_may_9 : decode cX8_may 9 = .ok (.iload_n 2, 1) := by decide +kernel
theorem dX8_may_10 : decode cX8_may 10 = .ok (.invokevirtual 179, 3) := by decide +kernel
theorem dX8_may_13 : decode cX8_may 13 = .ok (.ifCond .eq 32, 3) := by decide +kernel
theorem dX8_may_16 : decode cX8_may 16 = .ok (.iload_n 1, 1) := by decide +kernel
theorem dX8_may_17 : decode cX8_may 17 = .ok (.iload_n 2, 1) := by decide +kernel
theorem dX8_may_18 : decode cX8_may 18 = .ok (.if_icmp .eq 27, 3) := by decide +kernel
theorem dX8_may_21 : decode cX8_may 21 = .ok (.aload_n 0, 1) := by decide +kernel
theorem dX8_may_22 : decode cX8_may 22 = .ok (.iload_n 3, 1) := by decide +kernel
theorem dX8_may_23 : decode cX8_may 23 = .ok (.invokevirtual 104, 3) := by decide +kernel
theorem dX8_may_26 : decode cX8_may 26 = .ok (.ifCond .eq 19, 3) := by decide +kernel
theorem dX8_may_29 : decode cX8_may 29 = .ok (.iload 4, 2) := by decide +kernel
theorem dX8_may_31 : decode cX8_may 31 = .ok (.invokestatic 119, 3) := by decide +kernel
theorem dX8_may_34 : decode cX8_may 34 = .ok (.ifCond .eq 11, 3) := by decide +kernel
theorem dX8_may_37 : decode cX8_may 37 = .ok (.iload 5, 2) := by decide +kernel
theorem dX8_may_39 : decode cX8_may 39 = .ok (.invokestatic 119, 3) := by decide +kernel
theorem dX8_may_42 : decode cX8_may 42 = .ok (.ifCond .ne 5, 3) := by decide +kernel
theorem dX8_may_45 : decode cX8_may 45 = .ok (.iconst (-1), 1) := by decide +kernel
theorem dX8_may_46 : decode cX8_may 46 = .ok (.ireturn, 1) := by decide +kernel
theorem dX8_may_47 : decode cX8_may 47 = .ok (.aload_n 0, 1) := by decide +kernel
theorem dX8_may_48 : decode cX8_may 48 = .ok (.getfield 7, 3) := by decide +kernel
theorem dX8_may_51 : decode cX8_may 51 = .ok (.bipush 6, 2) := by decide +kernel
theorem dX8_may_53 : decode cX8_may 53 = .ok (.iload_n 3, 1) := by decide +kernel
theorem dX8_may_54 : decode cX8_may 54 = .ok (.imul, 1) := by decide +kernel
theorem dX8_may_55 : decode cX8_may 55 = .ok (.iconst 1, 1) := by decide +kernel
theorem dX8_may_56 : decode cX8_may 56 = .ok (.iadd, 1) := by decide +kernel
theorem dX8_may_57 : decode cX8_may 57 = .ok (.iaload, 1) := by decide +kernel
theorem dX8_may_58 : decode cX8_may 58 = .ok (.aload_n 0, 1) := by decide +kernel
theorem dX8_may_59 : decode cX8_may 59 = .ok (.getfield 19, 3) := by decide +kernel
theorem dX8_may_62 : decode cX8_may 62 = .ok (.iconst 3, 1) := by decide +kernel
theorem dX8_may_63 : decode cX8_may 63 = .ok (.iload_n 1, 1) := by decide +kernel
theorem dX8_may_64 : decode cX8_may 64 = .ok (.imul, 1) := by decide +kernel
theorem dX8_may_65 : decode cX8_may 65 = .ok (.iconst 1, 1) := by decide +kernel
theorem dX8_may_66 : decode cX8_may 66 = .ok (.iadd, 1) := by decide +kernel
theorem dX8_may_67 : decode cX8_may 67 = .ok (.iaload, 1) := by decide +kernel
theorem dX8_may_68 : decode cX8_may 68 = .ok (.aload_n 0, 1) := by decide +kernel
theorem dX8_may_69 : decode cX8_may 69 = .ok (.getfield 19, 3) := by decide +kernel
theorem dX8_may_72 : decode cX8_may 72 = .ok (.iconst 3, 1) := by decide +kernel
theorem dX8_may_73 : decode cX8_may 73 = .ok (.iload_n 2, 1) := by decide +kernel
theorem dX8_may_74 : decode cX8_may 74 = .ok (.imul, 1) := by decide +kernel
theorem dX8_may_75 : decode cX8_may 75 = .ok (.iconst 1, 1) := by decide +kernel
theorem dX8_may_76 : decode cX8_may 76 = .ok (.iadd, 1) := by decide +kernel
theorem dX8_may_77 : decode cX8_may 77 = .ok (.iaload, 1) := by decide +kernel
theorem dX8_may_78 : decode cX8_may 78 = .ok (.iadd, 1) := by decide +kernel
theorem dX8_may_79 : decode cX8_may 79 = .ok (.iload 4, 2) := by decide +kernel
theorem dX8_may_81 : decode cX8_may 81 = .ok (.iload 5, 2) := by decide +kernel
theorem dX8_may_83 : decode cX8_may 83 = .ok (.iadd, 1) := by decide +kernel
theorem dX8_may_84 : decode cX8_may 84 = .ok (.iload 4, 2) := by decide +kernel
theorem dX8_may_86 : decode cX8_may 86 = .ok (.iload 5, 2) := by decide +kernel
theorem dX8_may_88 : decode cX8_may 88 = .ok (.iadd, 1) := by decide +kernel
theorem dX8_may_89 : decode cX8_may 89 = .ok (.imul, 1) := by decide +kernel
theorem dX8_may_90 : decode cX8_may 90 = .ok (.bipush 20, 2) := by decide +kernel
theorem dX8_may_92 : decode cX8_may 92 = .ok (.idiv, 1) := by decide +kernel
theorem dX8_may_93 : decode cX8_may 93 = .ok (.iadd, 1) := by decide +kernel
theorem dX8_may_94 : decode cX8_may 94 = .ok (.if_icmp .lt 7, 3) := by decide +kernel
theorem dX8_may_97 : decode cX8_may 97 = .ok (.iconst 1, 1) := by decide +kernel
theorem dX8_may_98 : decode cX8_may 98 = .ok (.goto 4, 3) := by decide +kernel
theorem dX8_may_101 : decode cX8_may 101 = .ok (.iconst 0, 1) := by decide +kernel
theorem dX8_may_102 : decode cX8_may 102 = .ok (.ireturn, 1) := by decide +kernel
theorem dX8_meet_0 : decode cX8_meet 0 = .ok (.aload_n 0, 1) := by decide +kernel
theorem dX8_meet_1 : decode cX8_meet 1 = .ok (.iload_n 1, 1) := by decide +kernel
theorem dX8_meet_2 : decode cX8_meet 2 = .ok (.invokevirtual 179, 3) := by decide +kernel
theorem dX8_meet_5 : decode cX8_meet 5 = .ok (.ifCond .eq 48, 3) := by decide +kernel
theorem dX8_meet_8 : decode cX8_meet 8 = .ok (.aload_n 0, 1) := by decide +kernel
theorem dX8_meet_9 : decode cX8_meet 9 = .ok (.iload 4, 2) := by decide +kernel
theorem dX8_meet_11 : decode cX8_meet 11 = .ok (.invokevirtual 179, 3) := by decide +kernel
theorem dX8_meet_14 : decode cX8_meet 14 = .ok (.ifCond .eq 39, 3) := by decide +kernel
theorem dX8_meet_17 : decode cX8_meet 17 = .ok (.iload_n 1, 1) := by decide +kernel
theorem dX8_meet_18 : decode cX8_meet 18 = .ok (.iload 4, 2) := by decide +kernel
theorem dX8_meet_20 : decode cX8_meet 20 = .ok (.if_icmp .eq 33, 3) := by decide +kernel
theorem dX8_meet_23 : decode cX8_meet 23 = .ok (.iload_n 2, 1) := by decide +kernel
theorem dX8_meet_24 : decode cX8_meet 24 = .ok (.invokestatic 201, 3) := by decide +kernel
theorem dX8_meet_27 : decode cX8_meet 27 = .ok (.ifCond .eq 26, 3) := by decide +kernel
theorem dX8_meet_30 : decode cX8_meet 30 = .ok (.iload 5, 2) := by decide +kernel
theorem dX8_meet_32 : decode cX8_meet 32 = .ok (.invokestatic 201, 3) := by decide +kernel
theorem dX8_meet_35 : decode cX8_meet 35 = .ok (.ifCond .eq 18, 3) := by decide +kernel
theorem dX8_meet_38 : decode cX8_meet 38 = .ok (.iload_n 3, 1) := by decide +kernel
theorem dX8_meet_39 : decode cX8_meet 39 = .ok (.invokestatic 119, 3) := by decide +kernel
theorem dX8_meet_42 : decode cX8_meet 42 = .ok (.ifCond .eq 11, 3) := by decide +kernel
theorem dX8_meet_45 : decode cX8_meet 45 = .ok (.iload 6, 2) := by decide +kernel
theorem dX8_meet_47 : decode cX8_meet 47 = .ok (.invokestatic 119, 3) := by decide +kernel
theorem dX8_meet_50 : decode cX8_meet 50 = .ok (.ifCond .ne 5, 3) := by decide +kernel
theorem dX8_meet_53 : decode cX8_meet 53 = .ok (.iconst (-1), 1) := by decide +kernel
theorem dX8_meet_54 : decode cX8_meet 54 = .ok (.ireturn, 1) := by decide +kernel
theorem dX8_meet_55 : decode cX8_meet 55 = .ok (.aload_n 0, 1) := by decide +kernel
theorem dX8_meet_56 : decode cX8_meet 56 = .ok (.getfield 69, 3) := by decide +kernel
theorem dX8_meet_59 : decode cX8_meet 59 = .ok (.ifCond .ne 6, 3) := by decide +kernel
theorem dX8_meet_62 : decode cX8_meet 62 = .ok (.bipush (-2), 2) := by decide +kernel
theorem dX8_meet_64 : decode cX8_meet 64 = .ok (.ireturn, 1) := by decide +kernel
theorem dX8_meet_65 : decode cX8_meet 65 = .ok (.iconst 0, 1) := by decide +kernel
theorem dX8_meet_66 : decode cX8_meet 66 = .ok (.istore 7, 2) := by decide +kernel
theorem dX8_meet_68 : decode cX8_meet 68 = .ok (.iload 7, 2) := by decide +kernel
theorem dX8_meet_70 : decode cX8_meet 70 = .ok (.aload_n 0, 1) := by decide +kernel
theorem dX8_meet_71 : decode cX8_meet 71 = .ok (.getfield 69, 3) := by decide +kernel
theorem dX8_meet_74 : decode cX8_meet 74 = .ok (.if_icmp .ge 68, 3) := by decide +kernel
theorem dX8_meet_77 : decode cX8_meet 77 = .ok (.iload_n 2, 1) := by decide +kernel
theorem dX8_meet_78 : decode cX8_meet 78 = .ok (.iload 7, 2) := by decide +kernel
theorem dX8_meet_80 : decode cX8_meet 80 = .ok (.bipush 60, 2) := by decide +kernel
theorem dX8_meet_82 : decode cX8_meet 82 = .ok (.iload_n 3, 1) := by decide +kernel
theorem dX8_meet_83 : decode cX8_meet 83 = .ok (.idiv, 1) := by decide +kernel
theorem dX8_meet_84 : decode cX8_meet 84 = .ok (.imul, 1) := by decide +kernel
theorem dX8_meet_85 : decode cX8_meet 85 = .ok (.iadd, 1) := by decide +kernel
theorem dX8_meet_86 : decode cX8_meet 86 = .ok (.istore 8, 2) := by decide +kernel
theorem dX8_meet_88 : decode cX8_meet 88 = .ok (.iload 5, 2) := by decide +kernel
theorem dX8_meet_90 : decode cX8_meet 90 = .ok (.aload_n 0, 1) := by decide +kernel
theorem dX8_meet_91 : decode cX8_meet 91 = .ok (.getfield 69, 3) := by decide +kernel
theorem dX8_meet_94 : decode cX8_meet 94 = .ok (.iconst 1, 1) := by decide +kernel
theorem dX8_meet_95 : decode cX8_meet 95 = .ok (.isub, 1) := by decide +kernel
theorem dX8_meet_96 : decode cX8_meet 96 = .ok (.iload 7, 2) := by decide +kernel
theorem dX8_meet_98 : decode cX8_meet 98 = .ok (.isub, 1) := by decide +kernel
theorem dX8_meet_99 : decode cX8_meet 99 = .ok (.bipush 60, 2) := by decide +kernel
theorem dX8_meet_101 : decode cX8_meet 101 = .ok (.iload 6, 2) := by decide +kernel
theorem dX8_meet_103 : decode cX8_meet 103 = .ok (.idiv, 1) := by decide +kernel
theorem dX8_meet_104 : decode cX8_meet 104 = .ok (.imul, 1) := by decide +kernel
theorem dX8_meet_105 : decode cX8_meet 105 = .ok (.iadd, 1) := by decide +kernel
theorem dX8_meet_106 : decode cX8_meet 106 = .ok (.istore 9, 2) := by decide +kernel
theorem dX8_meet_108 : decode cX8_meet 108 = .ok (.iload 8, 2) := by decide +kernel
theorem dX8_meet_110 : decode cX8_meet 110 = .ok (.iload 9, 2) := by decide +kernel
theorem dX8_meet_112 : decode cX8_meet 112 = .ok (.bipush 60, 2) := by decide +kernel
theorem dX8_meet_114 : decode cX8_meet 114 = .ok (.iload 6, 2) := by decide +kernel
theorem dX8_meet_116 : decode cX8_meet 116 = .ok (.idiv, 1) := by decide +kernel
theorem dX8_meet_117 : decode cX8_meet 117 = .ok (.iadd, 1) := by decide +kernel
theorem dX8_meet_118 : decode cX8_meet 118 = .ok (.if_icmp .ge 18, 3) := by decide +kernel
theorem dX8_meet_121 : decode cX8_meet 121 = .ok (.iload 9, 2) := by decide +kernel
theorem dX8_meet_123 : decode cX8_meet 123 = .ok (.iload 8, 2) := by decide +kernel
theorem dX8_meet_125 : decode cX8_meet 125 = .ok (.bipush 60, 2) := by decide +kernel
theorem dX8_meet_127 : decode cX8_meet 127 = .ok (.iload_n 3, 1) := by decide +kernel
theorem dX8_meet_128 : decode cX8_meet 128 = .ok (.idiv, 1) := by decide +kernel
theorem dX8_meet_129 : decode cX8_meet 129 = .ok (.iadd, 1) := by decide +kernel
theorem dX8_meet_130 : decode cX8_meet 130 = .ok (.if_icmp .ge 6, 3) := by decide +kernel
theorem dX8_meet_133 : decode cX8_meet 133 = .ok (.iload 7, 2) := by decide +kernel
theorem dX8_meet_135 : decode cX8_meet 135 = .ok (.ireturn, 1) := by decide +kernel
theorem dX8_meet_136 : decode cX8_meet 136 = .ok (.iinc 7 1, 3) := by decide +kernel
theorem dX8_meet_139 : decode cX8_meet 139 = .ok (.goto (-71), 3) := by decide +kernel
theorem dX8_meet_142 : decode cX8_meet 142 = .ok (.bipush (-4), 2) := by decide +kernel
theorem dX8_meet_144 : decode cX8_meet 144 = .ok (.ireturn, 1) := by decide +kernel
theorem dX8_turns_0 : decode cX8_turns 0 = .ok (.iload_n 1, 1) := by decide +kernel
theorem dX8_turns_1 : decode cX8_turns 1 = .ok (.iconst 2, 1) := by decide +kernel
theorem dX8_turns_2 : decode cX8_turns 2 = .ok (.isub, 1) := by decide +kernel
theorem dX8_turns_3 : decode cX8_turns 3 = .ok (.istore_n 2, 1) := by decide +kernel
theorem dX8_turns_4 : decode cX8_turns 4 = .ok (.iload_n 2, 1) := by decide +kernel
theorem dX8_turns_5 : decode cX8_turns 5 = .ok (.ifCond .lt 26, 3) := by decide +kernel
theorem dX8_turns_8 : decode cX8_turns 8 = .ok (.aload_n 0, 1) := by decide +kernel
theorem dX8_turns_9 : decode cX8_turns 9 = .ok (.getfield 48, 3) := by decide +kernel
theorem dX8_turns_12 : decode cX8_turns 12 = .ok (.iload_n 2, 1) := by decide +kernel
theorem dX8_turns_13 : decode cX8_turns 13 = .ok (.iaload, 1) := by decide +kernel
theorem dX8_turns_14 : decode cX8_turns 14 = .ok (.aload_n 0, 1) := by decide +kernel
theorem dX8_turns_15 : decode cX8_turns 15 = .ok (.getfield 48, 3) := by decide +kernel
theorem dX8_turns_18 : decode cX8_turns 18 = .ok (.iload_n 2, 1) := by decide +kernel
theorem dX8_turns_19 : decode cX8_turns 19 = .ok (.iconst 1, 1) := by decide +kernel
theorem dX8_turns_20 : decode cX8_turns 20 = .ok (.iadd, 1) := by decide +kernel
theorem dX8_turns_21 : decode cX8_turns 21 = .ok (.iaload, 1) := by decide +kernel
theorem dX8_turns_22 : decode cX8_turns 22 = .ok (.if_icmp .le 9, 3) := by decide +kernel
theorem dX8_turns_25 : decode cX8_turns 25 = .ok (.iinc 2 (-1), 3) := by decide +kernel
theorem dX8_turns_28 : decode cX8_turns 28 = .ok (.goto (-24), 3) := by decide +kernel
theorem dX8_turns_31 : decode cX8_turns 31 = .ok (.iload_n 2, 1) := by decide +kernel
theorem dX8_turns_32 : decode cX8_turns 32 = .ok (.ifCond .ge 5, 3) := by decide +kernel
theorem dX8_turns_35 : decode cX8_turns 35 = .ok (.iconst 0, 1) := by decide +kernel
theorem dX8_turns_36 : decode cX8_turns 36 = .ok (.ireturn, 1) := by decide +kernel
theorem dX8_turns_37 : decode cX8_turns 37 = .ok (.iload_n 1, 1) := by decide +kernel
theorem dX8_turns_38 : decode cX8_turns 38 = .ok (.iconst 1, 1) := by decide +kernel
theorem dX8_turns_39 : decode cX8_turns 39 = .ok (.isub, 1) := by decide +kernel
theorem dX8_turns_40 : decode cX8_turns 40 = .ok (.istore_n 3, 1) := by decide +kernel
theorem dX8_turns_41 : decode cX8_turns 41 = .ok (.aload_n 0, 1) := by decide +kernel
theorem dX8_turns_42 : decode cX8_turns 42 = .ok (.getfield 48, 3) := by decide +kernel
theorem dX8_turns_45 : decode cX8_turns 45 = .ok (.iload_n 3, 1) := by decide +kernel
theorem dX8_turns_46 : decode cX8_turns 46 = .ok (.iaload, 1) := by decide +kernel
theorem dX8_turns_47 : decode cX8_turns 47 = .ok (.aload_n 0, 1) := by decide +kernel
theorem dX8_turns_48 : decode cX8_turns 48 = .ok (.getfield 48, 3) := by decide +kernel
theorem dX8_turns_51 : decode cX8_turns 51 = .ok (.iload_n 2, 1) := by decide +kernel
theorem dX8_turns_52 : decode cX8_turns 52 = .ok (.iaload, 1) := by decide +kernel
theorem dX8_turns_53 : decode cX8_turns 53 = .ok (.if_icmp .ge 9, 3) := by decide +kernel
theorem dX8_turns_56 : decode cX8_turns 56 = .ok (.iinc 3 (-1), 3) := by decide +kernel
theorem dX8_turns_59 : decode cX8_turns 59 = .ok (.goto (-18), 3) := by decide +kernel
theorem dX8_turns_62 : decode cX8_turns 62 = .ok (.aload_n 0, 1) := by decide +kernel
theorem dX8_turns_63 : decode cX8_turns 63 = .ok (.getfield 48, 3) := by decide +kernel
theorem dX8_turns_66 : decode cX8_turns 66 = .ok (.iload_n 2, 1) := by decide +kernel
theorem dX8_turns_67 : decode cX8_turns 67 = .ok (.iaload, 1) := by decide +kernel
theorem dX8_turns_68 : decode cX8_turns 68 = .ok (.istore 4, 2) := by decide +kernel
theorem dX8_turns_70 : decode cX8_turns 70 = .ok (.aload_n 0, 1) := by decide +kernel
theorem dX8_turns_71 : decode cX8_turns 71 = .ok (.getfield 48, 3) := by decide +kernel
theorem dX8_turns_74 : decode cX8_turns 74 = .ok (.iload_n 2, 1) := by decide +kernel
theorem dX8_turns_75 : decode cX8_turns 75 = .ok (.aload_n 0, 1) := by decide +kernel
theorem dX8_turns_76 : decode cX8_turns 76 = .ok (.getfield 48, 3) := by decide +kernel
theorem dX8_turns_79 : decode cX8_turns 79 = .ok (.iload_n 3, 1) := by decide +kernel
theorem dX8_turns_80 : decode cX8_turns 80 = .ok (.iaload, 1) := by decide +kernel
theorem dX8_turns_81 : decode cX8_turns 81 = .ok (.iastore, 1) := by decide +kernel
theorem dX8_turns_82 : decode cX8_turns 82 = .ok (.aload_n 0, 1) := by decide +kernel
theorem dX8_turns_83 : decode cX8_turns 83 = .ok (.getfield 48, 3) := by decide +kernel
theorem dX8_turns_86 : decode cX8_turns 86 = .ok (.iload_n 3, 1) := by decide +kernel
theorem dX8_turns_87 : decode cX8_turns 87 = .ok (.iload 4, 2) := by decide +kernel
theorem dX8_turns_89 : decode cX8_turns 89 = .ok (.iastore, 1) := by decide +kernel
theorem dX8_turns_90 : decode cX8_turns 90 = .ok (.iload_n 2, 1) := by decide +kernel
theorem dX8_turns_91 : decode cX8_turns 91 = .ok (.iconst 1, 1) := by decide +kernel
theorem dX8_turns_92 : decode cX8_turns 92 = .ok (.iadd, 1) := by decide +kernel
theorem dX8_turns_93 : decode cX8_turns 93 = .ok (.istore 5, 2) := by decide +kernel
theorem dX8_turns_95 : decode cX8_turns 95 = .ok (.iload_n 1, 1) := by decide +kernel
theorem dX8_turns_96 : decode cX8_turns 96 = .ok (.iconst 1, 1) := by decide +kernel
theorem dX8_turns_97 : decode cX8_turns 97 = .ok (.isub, 1) := by decide +kernel
theorem dX8_turns_98 : decode cX8_turns 98 = .ok (.istore 6, 2) := by decide +kernel
theorem dX8_turns_100 : decode cX8_turns 100 = .ok (.iload 5, 2) := by decide +kernel
theorem dX8_turns_102 : decode cX8_turns 102 = .ok (.iload 6, 2) := by decide +kernel
theorem dX8_turns_104 : decode cX8_turns 104 = .ok (.if_icmp .ge 44, 3) := by decide +kernel
theorem dX8_turns_107 : decode cX8_turns 107 = .ok (.aload_n 0, 1) := by decide +kernel
theorem dX8_turns_108 : decode cX8_turns 108 = .ok (.getfield 48, 3) := by decide +kernel
theorem dX8_turns_111 : decode cX8_turns 111 = .ok (.iload 5, 2) := by decide +kernel
theorem dX8_turns_113 : decode cX8_turns 113 = .ok (.iaload, 1) := by decide +kernel
theorem dX8_turns_114 : decode cX8_turns 114 = .ok (.istore 4, 2) := by decide +kernel
theorem dX8_turns_116 : decode cX8_turns 116 = .ok (.aload_n 0, 1) := by decide +kernel
theorem dX8_turns_117 : decode cX8_turns 117 = .ok (.getfield 48, 3) := by decide +kernel
theorem dX8_turns_120 : decode cX8_turns 120 = .ok (.iload 5, 2) := by decide +kernel
theorem dX8_turns_122 : decode cX8_turns 122 = .ok (.aload_n 0, 1) := by decide +kernel
theorem dX8_turns_123 : decode cX8_turns 123 = .ok (.getfield 48, 3) := by decide +kernel
theorem dX8_turns_126 : decode cX8_turns 126 = .ok (.iload 6, 2) := by decide +kernel
theorem dX8_turns_128 : decode cX8_turns 128 = .ok (.iaload, 1) := by decide +kernel
theorem dX8_turns_129 : decode cX8_turns 129 = .ok (.iastore, 1) := by decide +kernel
theorem dX8_turns_130 : decode cX8_turns 130 = .ok (.aload_n 0, 1) := by decide +kernel
theorem dX8_turns_131 : decode cX8_turns 131 = .ok (.getfield 48, 3) := by decide +kernel
theorem dX8_turns_134 : decode cX8_turns 134 = .ok (.iload 6, 2) := by decide +kernel
theorem dX8_turns_136 : decode cX8_turns 136 = .ok (.iload 4, 2) := by decide +kernel
theorem dX8_turns_138 : decode cX8_turns 138 = .ok (.iastore, 1) := by decide +kernel
theorem dX8_turns_139 : decode cX8_turns 139 = .ok (.iinc 5 1, 3) := by decide +kernel
theorem dX8_turns_142 : decode cX8_turns 142 = .ok (.iinc 6 (-1), 3) := by decide +kernel
theorem dX8_turns_145 : decode cX8_turns 145 = .ok (.goto (-45), 3) := by decide +kernel
theorem dX8_turns_148 : decode cX8_turns 148 = .ok (.iconst 1, 1) := by decide +kernel
theorem dX8_turns_149 : decode cX8_turns 149 = .ok (.ireturn, 1) := by decide +kernel
theorem dX8_sumOf_0 : decode cX8_sumOf 0 = .ok (.iconst 0, 1) := by decide +kernel
theorem dX8_sumOf_1 : decode cX8_sumOf 1 = .ok (.istore_n 3, 1) := by decide +kernel
theorem dX8_sumOf_2 : decode cX8_sumOf 2 = .ok (.iconst 0, 1) := by decide +kernel
theorem dX8_sumOf_3 : decode cX8_sumOf 3 = .ok (.istore 4, 2) := by decide +kernel
theorem dX8_sumOf_5 : decode cX8_sumOf 5 = .ok (.iconst 0, 1) := by decide +kernel
theorem dX8_sumOf_6 : decode cX8_sumOf 6 = .ok (.istore 5, 2) := by decide +kernel
theorem dX8_sumOf_8 : decode cX8_sumOf 8 = .ok (.iload 5, 2) := by decide +kernel
theorem dX8_sumOf_10 : decode cX8_sumOf 10 = .ok (.iload_n 1, 1) := by decide +kernel
theorem dX8_sumOf_11 : decode cX8_sumOf 11 = .ok (.if_icmp .ge 60, 3) := by decide +kernel
theorem dX8_sumOf_14 : decode cX8_sumOf 14 = .ok (.iload_n 3, 1) := by decide +kernel
theorem dX8_sumOf_15 : decode cX8_sumOf 15 = .ok (.ldc 194, 2) := by decide +kernel
theorem dX8_sumOf_17 : decode cX8_sumOf 17 = .ok (.if_icmp .ge 54, 3) := by decide +kernel
theorem dX8_sumOf_20 : decode cX8_sumOf 20 = .ok (.iload 4, 2) := by decide +kernel
theorem dX8_sumOf_22 : decode cX8_sumOf 22 = .ok (.sipush 1440, 3) := by decide +kernel
theorem dX8_sumOf_25 : decode cX8_sumOf 25 = .ok (.if_icmp .ge 25, 3) := by decide +kernel
theorem dX8_sumOf_28 : decode cX8_sumOf 28 = .ok (.aload_n 0, 1) := by decide +kernel
theorem dX8_sumOf_29 : decode cX8_sumOf 29 = .ok (.getfield 45, 3) := by decide +kernel
theorem dX8_sumOf_32 : decode cX8_sumOf 32 = .ok (.sipush 1440, 3) := by decide +kernel
theorem dX8_sumOf_35 : decode cX8_sumOf 35 = .ok (.aload_n 0, 1) := by decide +kernel
theorem dX8_sumOf_36 : decode cX8_sumOf 36 = .ok (.getfield 48, 3) := by decide +kernel
theorem dX8_sumOf_39 : decode cX8_sumOf 39 = .ok (.iload 5, 2) := by decide +kernel
theorem dX8_sumOf_41 : decode cX8_sumOf 41 = .ok (.iaload, 1) := by decide +kernel
theorem dX8_sumOf_42 : decode cX8_sumOf 42 = .ok (.imul, 1) := by decide +kernel
theorem dX8_sumOf_43 : decode cX8_sumOf 43 = .ok (.iload 4, 2) := by decide +kernel
theorem dX8_sumOf_45 : decode cX8_sumOf 45 = .ok (.iadd, 1) := by decide +kernel
theorem dX8_sumOf_46 : decode cX8_sumOf 46 = .ok (.iaload, 1) := by decide +kernel
theorem dX8_sumOf_47 : decode cX8_sumOf 47 = .ok (.goto 5, 3) := by decide +kernel
theorem dX8_sumOf_50 : decode cX8_sumOf 50 = .ok (.ldc 194, 2) := by decide +kernel
theorem dX8_sumOf_52 : decode cX8_sumOf 52 = .ok (.istore 6, 2) := by decide +kernel
theorem dX8_sumOf_54 : decode cX8_sumOf 54 = .ok (.iload_n 3, 1) := by decide +kernel
theorem dX8_sumOf_55 : decode cX8_sumOf 55 = .ok (.iload 6, 2) := by decide +kernel
theorem dX8_sumOf_57 : decode cX8_sumOf 57 = .ok (.iadd, 1) := by decide +kernel
theorem dX8_sumOf_58 : decode cX8_sumOf 58 = .ok (.istore_n 3, 1) := by decide +kernel
theorem dX8_sumOf_59 : decode cX8_sumOf 59 = .ok (.iload 6, 2) := by decide +kernel
theorem dX8_sumOf_61 : decode cX8_sumOf 61 = .ok (.iload_n 2, 1) := by decide +kernel
theorem dX8_sumOf_62 : decode cX8_sumOf 62 = .ok (.iadd, 1) := by decide +kernel
theorem dX8_sumOf_63 : decode cX8_sumOf 63 = .ok (.istore 4, 2) := by decide +kernel
theorem dX8_sumOf_65 : decode cX8_sumOf 65 = .ok (.iinc 5 1, 3) := by decide +kernel
theorem dX8_sumOf_68 : decode cX8_sumOf 68 = .ok (.goto (-60), 3) := by decide +kernel
theorem dX8_sumOf_71 : decode cX8_sumOf 71 = .ok (.iload_n 3, 1) := by decide +kernel
theorem dX8_sumOf_72 : decode cX8_sumOf 72 = .ok (.ireturn, 1) := by decide +kernel
theorem dX8_day_0 : decode cX8_day 0 = .ok (.iload_n 1, 1) := by decide +kernel
theorem dX8_day_1 : decode cX8_day 1 = .ok (.i2l, 1) := by decide +kernel
theorem dX8_day_2 : decode cX8_day 2 = .ok (.lconst 1, 1) := by decide +kernel
theorem dX8_day_3 : decode cX8_day 3 = .ok (.iconst 1, 1) := by decide +kernel
theorem dX8_day_4 : decode cX8_day 4 = .ok (.aload_n 0, 1) := by decide +kernel
theorem dX8_day_5 : decode cX8_day 5 = .ok (.getfield 77, 3) := by decide +kernel
theorem dX8_day_8 : decode cX8_day 8 = .ok (.ishl, 1) := by decide +kernel
theorem dX8_day_9 : decode cX8_day 9 = .ok (.iconst 1, 1) := by decide +kernel
theorem dX8_day_10 : decode cX8_day 10 = .ok (.isub, 1) := by decide +kernel
theorem dX8_day_11 : decode cX8_day 11 = .ok (.i2l, 1) := by decide +kernel
theorem dX8_day_12 : decode cX8_day 12 = .ok (.invokestatic 73, 3) := by decide +kernel
theorem dX8_day_15 : decode cX8_day 15 = .ok (.ifCond .eq 29, 3) := by decide +kernel
theorem dX8_day_18 : decode cX8_day 18 = .ok (.iload_n 2, 1) := by decide +kernel
theorem dX8_day_19 : decode cX8_day 19 = .ok (.i2l, 1) := by decide +kernel
theorem dX8_day_20 : decode cX8_day 20 = .ok (.lconst 1, 1) := by decide +kernel
theorem dX8_day_21 : decode cX8_day 21 = .ok (.ldc2_w 228, 3) := by decide +kernel
theorem dX8_day_24 : decode cX8_day 24 = .ok (.invokestatic 73, 3) := by decide +kernel
theorem dX8_day_27 : decode cX8_day 27 = .ok (.ifCond .eq 17, 3) := by decide +kernel
theorem dX8_day_30 : decode cX8_day 30 = .ok (.iload_n 3, 1) := by decide +kernel
theorem dX8_day_31 : decode cX8_day 31 = .ok (.i2l, 1) := by decide +kernel
theorem dX8_day_32 : decode cX8_day 32 = .ok (.ldc2_w 210, 3) := by decide +kernel
theorem dX8_day_35 : decode cX8_day 35 = .ok (.ldc2_w 108, 3) := by decide +kernel
theorem dX8_day_38 : decode cX8_day 38 = .ok (.invokestatic 73, 3) := by decide +kernel
theorem dX8_day_41 : decode cX8_day 41 = .ok (.ifCond .ne 5, 3) := by decide +kernel
theorem dX8_day_44 : decode cX8_day 44 = .ok (.iconst (-1), 1) := by decide +kernel
theorem dX8_day_45 : decode cX8_day 45 = .ok (.ireturn, 1) := by decide +kernel
theorem dX8_day_46 : decode cX8_day 46 = .ok (.aload_n 0, 1) := by decide +kernel
theorem dX8_day_47 : decode cX8_day 47 = .ok (.getfield 69, 3) := by decide +kernel
theorem dX8_day_50 : decode cX8_day 50 = .ok (.ifCond .ne 6, 3) := by decide +kernel
theorem dX8_day_53 : decode cX8_day 53 = .ok (.bipush (-2), 2) := by decide +kernel
theorem dX8_day_55 : decode cX8_day 55 = .ok (.ireturn, 1) := by decide +kernel
theorem dX8_day_56 : decode cX8_day 56 = .ok (.iconst 0, 1) := by decide +kernel
theorem dX8_day_57 : decode cX8_day 57 = .ok (.istore 4, 2) := by decide +kernel
theorem dX8_day_59 : decode cX8_day 59 = .ok (.iconst 0, 1) := by decide +kernel
theorem dX8_day_60 : decode cX8_day 60 = .ok (.istore 5, 2) := by decide +kernel
theorem dX8_day_62 : decode cX8_day 62 = .ok (.iload 5, 2) := by decide +kernel
theorem dX8_day_64 : decode cX8_day 64 = .ok (.aload_n 0, 1) := by decide +kernel
theorem dX8_day_65 : decode cX8_day 65 = .ok (.getfield 77, 3) := by decide +kernel
theorem dX8_day_68 : decode cX8_day 68 = .ok (.if_icmp .ge 92, 3) := by decide +kernel
theorem dX8_day_71 : decode cX8_day 71 = .ok (.iload_n 1, 1) := by decide +kernel
theorem dX8_day_72 : decode cX8_day 72 = .ok (.iload 5, 2) := by decide +kernel
theorem dX8_day_74 : decode cX8_day 74 = .ok (.ishr, 1) := by decide +kernel
theorem dX8_day_75 : decode cX8_day 75 = .ok (.iconst 1, 1) := by decide +kernel
theorem dX8_day_76 : decode cX8_day 76 = .ok (.iand, 1) := by decide +kernel
theorem dX8_day_77 : decode cX8_day 77 = .ok (.iconst 1, 1) := by decide +kernel
theorem dX8_day_78 : decode cX8_day 78 = .ok (.if_icmp .ne 76, 3) := by decide +kernel
theorem dX8_day_81 : decode cX8_day 81 = .ok (.aload_n 0, 1) := by decide +kernel
theorem dX8_day_82 : decode cX8_day 82 = .ok (.iload 5, 2) := by decide +kernel
theorem dX8_day_84 : decode cX8_day 84 = .ok (.invokevirtual 217, 3) := by decide +kernel
theorem dX8_day_87 : decode cX8_day 87 = .ok (.ldc 194, 2) := by decide +kernel
theorem dX8_day_89 : decode cX8_day 89 = .ok (.istore 6, 2) := by decide +kernel
theorem dX8_day_91 : decode cX8_day 91 = .ok (.sipush 1439, 3) := by decide +kernel
theorem dX8_day_94 : decode cX8_day 94 = .ok (.istore 7, 2) := by decide +kernel
theorem dX8_day_96 : decode cX8_day 96 = .ok (.iload 7, 2) := by decide +kernel
theorem dX8_day_98 : decode cX8_day 98 = .ok (.ifCond .lt 44, 3) := by decide +kernel
theorem dX8_day_101 : decode cX8_day 101 = .ok (.aload_n 0, 1) := by decide +kernel
theorem dX8_day_102 : decode cX8_day 102 = .ok (.getfield 34, 3) := by decide +kernel
theorem dX8_day_105 : decode cX8_day 105 = .ok (.iload 7, 2) := by decide +kernel
theorem dX8_day_107 : decode cX8_day 107 = .ok (.baload, 1) := by decide +kernel
theorem dX8_day_108 : decode cX8_day 108 = .ok (.ifCond .eq 8, 3) := by decide +kernel
theorem dX8_day_111 : decode cX8_day 111 = .ok (.iload 7, 2) := by decide +kernel
theorem dX8_day_113 : decode cX8_day 113 = .ok (.goto 5, 3) := by decide +kernel
theorem dX8_day_116 : decode cX8_day 116 = .ok (.iload 6, 2) := by decide +kernel
theorem dX8_day_118 : decode cX8_day 118 = .ok (.istore 6, 2) := by decide +kernel
theorem dX8_day_120 : decode cX8_day 120 = .ok (.aload_n 0, 1) := by decide +kernel
theorem dX8_day_121 : decode cX8_day 121 = .ok (.getfield 45, 3) := by decide +kernel
theorem dX8_day_124 : decode cX8_day 124 = .ok (.sipush 1440, 3) := by decide +kernel
theorem dX8_day_127 : decode cX8_day 127 = .ok (.iload 5, 2) := by decide +kernel
theorem dX8_day_129 : decode cX8_day 129 = .ok (.imul, 1) := by decide +kernel
theorem dX8_day_130 : decode cX8_day 130 = .ok (.iload 7, 2) := by decide +kernel
theorem dX8_day_132 : decode cX8_day 132 = .ok (.iadd, 1) := by decide +kernel
theorem dX8_day_133 : decode cX8_day 133 = .ok (.iload 6, 2) := by decide +kernel
theorem dX8_day_135 : decode cX8_day 135 = .ok (.iastore, 1) := by decide +kernel
theorem dX8_day_136 : decode cX8_day 136 = .ok (.iinc 7 (-1), 3) := by decide +kernel
theorem dX8_day_139 : decode cX8_day 139 = .ok (.goto (-43), 3) := by decide +kernel
theorem dX8_day_142 : decode cX8_day 142 = .ok (.aload_n 0, 1) := by decide +kernel
theorem dX8_day_143 : decode cX8_day 143 = .ok (.getfield 48, 3) := by decide +kernel
theorem dX8_day_146 : decode cX8_day 146 = .ok (.iload 4, 2) := by decide +kernel
theorem dX8_day_148 : decode cX8_day 148 = .ok (.iload 5, 2) := by decide +kernel
theorem dX8_day_150 : decode cX8_day 150 = .ok (.iastore, 1) := by decide +kernel
theorem dX8_day_151 : decode cX8_day 151 = .ok (.iinc 4 1, 3) := by decide +kernel
theorem dX8_day_154 : decode cX8_day 154 = .ok (.iinc 5 1, 3) := by decide +kernel
theorem dX8_day_157 : decode cX8_day 157 = .ok (.goto (-95), 3) := by decide +kernel
theorem dX8_day_160 : decode cX8_day 160 = .ok (.ldc 194, 2) := by decide +kernel
theorem dX8_day_162 : decode cX8_day 162 = .ok (.istore 5, 2) := by decide +kernel
theorem dX8_day_164 : decode cX8_day 164 = .ok (.iconst 1, 1) := by decide +kernel
theorem dX8_day_165 : decode cX8_day 165 = .ok (.istore 6, 2) := by decide +kernel
theorem dX8_day_167 : decode cX8_day 167 = .ok (.iload 6, 2) := by decide +kernel
theorem dX8_day_169 : decode cX8_day 169 = .ok (.ifCond .eq 76, 3) := by decide +kernel
theorem dX8_day_172 : decode cX8_day 172 = .ok (.aload_n 0, 1) := by decide +kernel
theorem dX8_day_173 : decode cX8_day 173 = .ok (.iload 4, 2) := by decide +kernel
theorem dX8_day_175 : decode cX8_day 175 = .ok (.iload_n 2, 1) := by decide +kernel
theorem dX8_day_176 : decode cX8_day 176 = .ok (.invokevirtual 230, 3) := by decide +kernel
theorem dX8_day_179 : decode cX8_day 179 = .ok (.istore 7, 2) := by decide +kernel
theorem dX8_day_181 : decode cX8_day 181 = .ok (.iconst 0, 1) := by decide +kernel
theorem dX8_day_182 : decode cX8_day 182 = .ok (.istore 8, 2) := by decide +kernel
theorem dX8_day_184 : decode cX8_day 184 = .ok (.iload 8, 2) := by decide +kernel
theorem dX8_day_186 : decode cX8_day 186 = .ok (.iload 4, 2) := by decide +kernel
theorem dX8_day_188 : decode cX8_day 188 = .ok (.if_icmp .ge 30, 3) := by decide +kernel
theorem dX8_day_191 : decode cX8_day 191 = .ok (.iload 7, 2) := by decide +kernel
theorem dX8_day_193 : decode cX8_day 193 = .ok (.iload 5, 2) := by decide +kernel
theorem dX8_day_195 : decode cX8_day 195 = .ok (.if_icmp .ge 23, 3) := by decide +kernel
theorem dX8_day_198 : decode cX8_day 198 = .ok (.aload_n 0, 1) := by decide +kernel
theorem dX8_day_199 : decode cX8_day 199 = .ok (.getfield 51, 3) := by decide +kernel
theorem dX8_day_202 : decode cX8_day 202 = .ok (.iload 8, 2) := by decide +kernel
theorem dX8_day_204 : decode cX8_day 204 = .ok (.aload_n 0, 1) := by decide +kernel
theorem dX8_day_205 : decode cX8_day 205 = .ok (.getfield 48, 3) := by decide +kernel
theorem dX8_day_208 : decode cX8_day 208 = .ok (.iload 8, 2) := by decide +kernel
theorem dX8_day_210 : decode cX8_day 210 = .ok (.iaload, 1) := by decide +kernel
theorem dX8_day_211 : decode cX8_day 211 = .ok (.iastore, 1) := by decide +kernel
theorem dX8_day_212 : decode cX8_day 212 = .ok (.iinc 8 1, 3) := by decide +kernel
theorem dX8_day_215 : decode cX8_day 215 = .ok (.goto (-31), 3) := by decide +kernel
theorem dX8_day_218 : decode cX8_day 218 = .ok (.iload 7, 2) := by decide +kernel
theorem dX8_day_220 : decode cX8_day 220 = .ok (.iload 5, 2) := by decide +kernel
theorem dX8_day_222 : decode cX8_day 222 = .ok (.if_icmp .ge 8, 3) := by decide +kernel
theorem dX8_day_225 : decode cX8_day 225 = .ok (.iload 7, 2) := by decide +kernel
theorem dX8_day_227 : decode cX8_day 227 = .ok (.goto 5, 3) := by decide +kernel
theorem dX8_day_230 : decode cX8_day 230 = .ok (.iload 5, 2) := by decide +kernel
theorem dX8_day_232 : decode cX8_day 232 = .ok (.istore 5, 2) := by decide +kernel
theorem dX8_day_234 : decode cX8_day 234 = .ok (.aload_n 0, 1) := by decide +kernel
theorem dX8_day_235 : decode cX8_day 235 = .ok (.iload 4, 2) := by decide +kernel
theorem dX8_day_237 : decode cX8_day 237 = .ok (.invokevirtual 233, 3) := by decide +kernel
theorem dX8_day_240 : decode cX8_day 240 = .ok (.istore 6, 2) := by decide +kernel
theorem dX8_day_242 : decode cX8_day 242 = .ok (.goto (-75), 3) := by decide +kernel
theorem dX8_day_245 : decode cX8_day 245 = .ok (.iload 5, 2) := by decide +kernel
theorem dX8_day_247 : decode cX8_day 247 = .ok (.ldc 194, 2) := by decide +kernel
theorem dX8_day_249 : decode cX8_day 249 = .ok (.if_icmp .ge 9, 3) := by decide +kernel
theorem dX8_day_252 : decode cX8_day 252 = .ok (.iload_n 3, 1) := by decide +kernel
theorem dX8_day_253 : decode cX8_day 253 = .ok (.iload 4, 2) := by decide +kernel
theorem dX8_day_255 : decode cX8_day 255 = .ok (.if_icmp .lt 8, 3) := by decide +kernel
theorem dX8_day_258 : decode cX8_day 258 = .ok (.bipush (-4), 2) := by decide +kernel
theorem dX8_day_260 : decode cX8_day 260 = .ok (.goto 18, 3) := by decide +kernel
theorem dX8_day_263 : decode cX8_day 263 = .ok (.iload_n 3, 1) := by decide +kernel
theorem dX8_day_264 : decode cX8_day 264 = .ok (.ifCond .ge 8, 3) := by decide +kernel
theorem dX8_day_267 : decode cX8_day 267 = .ok (.iload 5, 2) := by decide +kernel
theorem dX8_day_269 : decode cX8_day 269 = .ok (.goto 9, 3) := by decide +kernel
theorem dX8_day_272 : decode cX8_day 272 = .ok (.aload_n 0, 1) := by decide +kernel
theorem dX8_day_273 : decode cX8_day 273 = .ok (.getfield 51, 3) := by decide +kernel
theorem dX8_day_276 : decode cX8_day 276 = .ok (.iload_n 3, 1) := by decide +kernel
theorem dX8_day_277 : decode cX8_day 277 = .ok (.iaload, 1) := by decide +kernel
theorem dX8_day_278 : decode cX8_day 278 = .ok (.ireturn, 1) := by decide +kernel
theorem dX8_dredged_0 : decode cX8_dredged 0 = .ok (.aload_n 0, 1) := by decide +kernel
theorem dX8_dredged_1 : decode cX8_dredged 1 = .ok (.iload_n 1, 1) := by decide +kernel
theorem dX8_dredged_2 : decode cX8_dredged 2 = .ok (.invokevirtual 179, 3) := by decide +kernel
theorem dX8_dredged_5 : decode cX8_dredged 5 = .ok (.ifCond .eq 20, 3) := by decide +kernel
theorem dX8_dredged_8 : decode cX8_dredged 8 = .ok (.iload_n 2, 1) := by decide +kernel
theorem dX8_dredged_9 : decode cX8_dredged 9 = .ok (.invokestatic 201, 3) := by decide +kernel
theorem dX8_dredged_12 : decode cX8_dredged 12 = .ok (.ifCond .eq 13, 3) := by decide +kernel
theorem dX8_dredged_15 : decode cX8_dredged 15 = .ok (.iload_n 3, 1) := by decide +kernel
theorem dX8_dredged_16 : decode cX8_dredged 16 = .ok (.i2l, 1) := by decide +kernel
theorem dX8_dredged_17 : decode cX8_dredged 17 = .ok (.lconst 0, 1) := by decide +kernel
theorem dX8_dredged_18 : decode cX8_dredged 18 = .ok (.lconst 1, 1) := by decide +kernel
theorem dX8_dredged_19 : decode cX8_dredged 19 = .ok (.invokestatic 73, 3) := by decide +kernel
theorem dX8_dredged_22 : decode cX8_dredged 22 = .ok (.ifCond .ne 5, 3) := by decide +kernel
theorem dX8_dredged_25 : decode cX8_dredged 25 = .ok (.iconst (-1), 1) := by decide +kernel
theorem dX8_dredged_26 : decode cX8_dredged 26 = .ok (.ireturn, 1) := by decide +kernel
theorem dX8_dredged_27 : decode cX8_dredged 27 = .ok (.aload_n 0, 1) := by decide +kernel
theorem dX8_dredged_28 : decode cX8_dredged 28 = .ok (.getfield 69, 3) := by decide +kernel
theorem dX8_dredged_31 : decode cX8_dredged 31 = .ok (.ifCond .ne 6, 3) := by decide +kernel
theorem dX8_dredged_34 : decode cX8_dredged 34 = .ok (.bipush (-2), 2) := by decide +kernel
theorem dX8_dredged_36 : decode cX8_dredged 36 = .ok (.ireturn, 1) := by decide +kernel
theorem dX8_dredged_37 : decode cX8_dredged 37 = .ok (.aload_n 0, 1) := by decide +kernel
theorem dX8_dredged_38 : decode cX8_dredged 38 = .ok (.iload_n 1, 1) := by decide +kernel
theorem dX8_dredged_39 : decode cX8_dredged 39 = .ok (.iload_n 2, 1) := by decide +kernel
theorem dX8_dredged_40 : decode cX8_dredged 40 = .ok (.invokevirtual 212, 3) := by decide +kernel
theorem dX8_dredged_43 : decode cX8_dredged 43 = .ok (.istore 4, 2) := by decide +kernel
theorem dX8_dredged_45 : decode cX8_dredged 45 = .ok (.bipush (-4), 2) := by decide +kernel
theorem dX8_dredged_47 : decode cX8_dredged 47 = .ok (.istore 5, 2) := by decide +kernel
theorem dX8_dredged_49 : decode cX8_dredged 49 = .ok (.iconst (-1), 1) := by decide +kernel
theorem dX8_dredged_50 : decode cX8_dredged 50 = .ok (.istore 6, 2) := by decide +kernel
theorem dX8_dredged_52 : decode cX8_dredged 52 = .ok (.iconst 0, 1) := by decide +kernel
theorem dX8_dredged_53 : decode cX8_dredged 53 = .ok (.istore 7, 2) := by decide +kernel
theorem dX8_dredged_55 : decode cX8_dredged 55 = .ok (.iload 7, 2) := by decide +kernel
theorem dX8_dredged_57 : decode cX8_dredged 57 = .ok (.aload_n 0, 1) := by decide +kernel
theorem dX8_dredged_58 : decode cX8_dredged 58 = .ok (.getfield 69, 3) := by decide +kernel
theorem dX8_dredged_61 : decode cX8_dredged 61 = .ok (.if_icmp .ge 103, 3) := by decide +kernel
theorem dX8_dredged_64 : decode cX8_dredged 64 = .ok (.iload 4, 2) := by decide +kernel
theorem dX8_dredged_66 : decode cX8_dredged 66 = .ok (.ldc 194, 2) := by decide +kernel
theorem dX8_dredged_68 : decode cX8_dredged 68 = .ok (.if_icmp .ge 96, 3) := by decide +kernel
theorem dX8_dredged_71 : decode cX8_dredged 71 = .ok (.aload_n 0, 1) := by decide +kernel
theorem dX8_dredged_72 : decode cX8_dredged 72 = .ok (.getfield 7, 3) := by decide +kernel
theorem dX8_dredged_75 : decode cX8_dredged 75 = .ok (.bipush 6, 2) := by decide +kernel
theorem dX8_dredged_77 : decode cX8_dredged 77 = .ok (.iload 7, 2) := by decide +kernel
theorem dX8_dredged_79 : decode cX8_dredged 79 = .ok (.imul, 1) := by decide +kernel
theorem dX8_dredged_80 : decode cX8_dredged 80 = .ok (.iaload, 1) := by decide +kernel
theorem dX8_dredged_81 : decode cX8_dredged 81 = .ok (.sipush 250, 3) := by decide +kernel
theorem dX8_dredged_84 : decode cX8_dredged 84 = .ok (.if_icmp .ge 74, 3) := by decide +kernel
theorem dX8_dredged_87 : decode cX8_dredged 87 = .ok (.aload_n 0, 1) := by decide +kernel
theorem dX8_dredged_88 : decode cX8_dredged 88 = .ok (.getfield 7, 3) := by decide +kernel
theorem dX8_dredged_91 : decode cX8_dredged 91 = .ok (.bipush 6, 2) := by decide +kernel
theorem dX8_dredged_93 : decode cX8_dredged 93 = .ok (.iload 7, 2) := by decide +kernel
theorem dX8_dredged_95 : decode cX8_dredged 95 = .ok (.imul, 1) := by decide +kernel
theorem dX8_dredged_96 : decode cX8_dredged 96 = .ok (.dup2, 1) := by decide +kernel
theorem dX8_dredged_97 : decode cX8_dredged 97 = .ok (.iaload, 1) := by decide +kernel
theorem dX8_dredged_98 : decode cX8_dredged 98 = .ok (.iconst 1, 1) := by decide +kernel
theorem dX8_dredged_99 : decode cX8_dredged 99 = .ok (.iadd, 1) := by decide +kernel
theorem dX8_dredged_100 : decode cX8_dredged 100 = .ok (.iastore, 1) := by decide +kernel
theorem dX8_dredged_101 : decode cX8_dredged 101 = .ok (.iload 4, 2) := by decide +kernel
theorem dX8_dredged_103 : decode cX8_dredged 103 = .ok (.aload_n 0, 1) := by decide +kernel
theorem dX8_dredged_104 : decode cX8_dredged 104 = .ok (.iload_n 1, 1) := by decide +kernel
theorem dX8_dredged_105 : decode cX8_dredged 105 = .ok (.iload_n 2, 1) := by decide +kernel
theorem dX8_dredged_106 : decode cX8_dredged 106 = .ok (.invokevirtual 212, 3) := by decide +kernel
theorem dX8_dredged_109 : decode cX8_dredged 109 = .ok (.isub, 1) := by decide +kernel
theorem dX8_dredged_110 : decode cX8_dredged 110 = .ok (.istore 8, 2) := by decide +kernel
theorem dX8_dredged_112 : decode cX8_dredged 112 = .ok (.aload_n 0, 1) := by decide +kernel
theorem dX8_dredged_113 : decode cX8_dredged 113 = .ok (.getfield 7, 3) := by decide +kernel
theorem dX8_dredged_116 : decode cX8_dredged 116 = .ok (.bipush 6, 2) := by decide +kernel
theorem dX8_dredged_118 : decode cX8_dredged 118 = .ok (.iload 7, 2) := by decide +kernel
theorem dX8_dredged_120 : decode cX8_dredged 120 = .ok (.imul, 1) := by decide +kernel
theorem dX8_dredged_121 : decode cX8_dredged 121 = .ok (.dup2, 1) := by decide +kernel
theorem dX8_dredged_122 : decode cX8_dredged 122 = .ok (.iaload, 1) := by decide +kernel
theorem dX8_dredged_123 : decode cX8_dredged 123 = .ok (.iconst 1, 1) := by decide +kernel
theorem dX8_dredged_124 : decode cX8_dredged 124 = .ok (.isub, 1) := by decide +kernel
theorem dX8_dredged_125 : decode cX8_dredged 125 = .ok (.iastore, 1) := by decide +kernel
theorem dX8_dredged_126 : decode cX8_dredged 126 = .ok (.iload 8, 2) := by decide +kernel
theorem dX8_dredged_128 : decode cX8_dredged 128 = .ok (.iload 6, 2) := by decide +kernel
theorem dX8_dredged_130 : decode cX8_dredged 130 = .ok (.if_icmp .le 8, 3) := by decide +kernel
theorem dX8_dredged_133 : decode cX8_dredged 133 = .ok (.iload 7, 2) := by decide +kernel
theorem dX8_dredged_135 : decode cX8_dredged 135 = .ok (.goto 5, 3) := by decide +kernel
theorem dX8_dredged_138 : decode cX8_dredged 138 = .ok (.iload 5, 2) := by decide +kernel
theorem dX8_dredged_140 : decode cX8_dredged 140 = .ok (.istore 5, 2) := by decide +kernel
theorem dX8_dredged_142 : decode cX8_dredged 142 = .ok (.iload 8, 2) := by decide +kernel
theorem dX8_dredged_144 : decode cX8_dredged 144 = .ok (.iload 6, 2) := by decide +kernel
theorem dX8_dredged_146 : decode cX8_dredged 146 = .ok (.if_icmp .le 8, 3) := by decide +kernel
theorem dX8_dredged_149 : decode cX8_dredged 149 = .ok (.iload 8, 2) := by decide +kernel
theorem dX8_dredged_151 : decode cX8_dredged 151 = .ok (.goto 5, 3) := by decide +kernel
theorem dX8_dredged_154 : decode cX8_dredged 154 = .ok (.iload 6, 2) := by decide +kernel
theorem dX8_dredged_156 : decode cX8_dredged 156 = .ok (.istore 6, 2) := by decide +kernel
theorem dX8_dredged_158 : decode cX8_dredged 158 = .ok (.iinc 7 1, 3) := by decide +kernel
theorem dX8_dredged_161 : decode cX8_dredged 161 = .ok (.goto (-106), 3) := by decide +kernel
theorem dX8_dredged_164 : decode cX8_dredged 164 = .ok (.iload 5, 2) := by decide +kernel
theorem dX8_dredged_166 : decode cX8_dredged 166 = .ok (.ifCond .lt 7, 3) := by decide +kernel
theorem dX8_dredged_169 : decode cX8_dredged 169 = .ok (.iload_n 3, 1) := by decide +kernel
theorem dX8_dredged_170 : decode cX8_dredged 170 = .ok (.ifCond .ne 8, 3) := by decide +kernel
theorem dX8_dredged_173 : decode cX8_dredged 173 = .ok (.iload 5, 2) := by decide +kernel
theorem dX8_dredged_175 : decode cX8_dredged 175 = .ok (.goto 5, 3) := by decide +kernel
theorem dX8_dredged_178 : decode cX8_dredged 178 = .ok (.iload 6, 2) := by decide +kernel
theorem dX8_dredged_180 : decode cX8_dredged 180 = .ok (.ireturn, 1) := by decide +kernel
theorem dX8_lost_0 : decode cX8_lost 0 = .ok (.aload_n 0, 1) := by decide +kernel
theorem dX8_lost_1 : decode cX8_lost 1 = .ok (.iload_n 1, 1) := by decide +kernel
theorem dX8_lost_2 : decode cX8_lost 2 = .ok (.invokevirtual 179, 3) := by decide +kernel
theorem dX8_lost_5 : decode cX8_lost 5 = .ok (.ifCond .eq 27, 3) := by decide +kernel
theorem dX8_lost_8 : decode cX8_lost 8 = .ok (.iload_n 2, 1) := by decide +kernel
theorem dX8_lost_9 : decode cX8_lost 9 = .ok (.invokestatic 201, 3) := by decide +kernel
theorem dX8_lost_12 : decode cX8_lost 12 = .ok (.ifCond .eq 20, 3) := by decide +kernel
theorem dX8_lost_15 : decode cX8_lost 15 = .ok (.iconst 3, 1) := by decide +kernel
theorem dX8_lost_16 : decode cX8_lost 16 = .ok (.iload_n 3, 1) := by decide +kernel
theorem dX8_lost_17 : decode cX8_lost 17 = .ok (.invokestatic 114, 3) := by decide +kernel
theorem dX8_lost_20 : decode cX8_lost 20 = .ok (.ifCond .eq 12, 3) := by decide +kernel
theorem dX8_lost_23 : decode cX8_lost 23 = .ok (.iconst 4, 1) := by decide +kernel
theorem dX8_lost_24 : decode cX8_lost 24 = .ok (.iload 4, 2) := by decide +kernel
theorem dX8_lost_26 : decode cX8_lost 26 = .ok (.invokestatic 114, 3) := by decide +kernel
theorem dX8_lost_29 : decode cX8_lost 29 = .ok (.ifCond .ne 5, 3) := by decide +kernel
theorem dX8_lost_32 : decode cX8_lost 32 = .ok (.iconst (-1), 1) := by decide +kernel
theorem dX8_lost_33 : decode cX8_lost 33 = .ok (.ireturn, 1) := by decide +kernel
theorem dX8_lost_34 : decode cX8_lost 34 = .ok (.aload_n 0, 1) := by decide +kernel
theorem dX8_lost_35 : decode cX8_lost 35 = .ok (.getfield 69, 3) := by decide +kernel
theorem dX8_lost_38 : decode cX8_lost 38 = .ok (.ifCond .ne 6, 3) := by decide +kernel
theorem dX8_lost_41 : decode cX8_lost 41 = .ok (.bipush (-2), 2) := by decide +kernel
theorem dX8_lost_43 : decode cX8_lost 43 = .ok (.ireturn, 1) := by decide +kernel
theorem dX8_lost_44 : decode cX8_lost 44 = .ok (.aload_n 0, 1) := by decide +kernel
theorem dX8_lost_45 : decode cX8_lost 45 = .ok (.getfield 16, 3) := by decide +kernel
theorem dX8_lost_48 : decode cX8_lost 48 = .ok (.iconst 3, 1) := by decide +kernel
theorem dX8_lost_49 : decode cX8_lost 49 = .ok (.iaload, 1) := by decide +kernel
theorem dX8_lost_50 : decode cX8_lost 50 = .ok (.istore 5, 2) := by decide +kernel
theorem dX8_lost_52 : decode cX8_lost 52 = .ok (.aload_n 0, 1) := by decide +kernel
theorem dX8_lost_53 : decode cX8_lost 53 = .ok (.getfield 16, 3) := by decide +kernel
theorem dX8_lost_56 : decode cX8_lost 56 = .ok (.iconst 4, 1) := by decide +kernel
theorem dX8_lost_57 : decode cX8_lost 57 = .ok (.iaload, 1) := by decide +kernel
theorem dX8_lost_58 : decode cX8_lost 58 = .ok (.istore 6, 2) := by decide +kernel
theorem dX8_lost_60 : decode cX8_lost 60 = .ok (.aload_n 0, 1) := by decide +kernel
theorem dX8_lost_61 : decode cX8_lost 61 = .ok (.getfield 16, 3) := by decide +kernel
theorem dX8_lost_64 : decode cX8_lost 64 = .ok (.iconst 3, 1) := by decide +kernel
theorem dX8_lost_65 : decode cX8_lost 65 = .ok (.iload_n 3, 1) := by decide +kernel
theorem dX8_lost_66 : decode cX8_lost 66 = .ok (.iastore, 1) := by decide +kernel
theorem dX8_lost_67 : decode cX8_lost 67 = .ok (.aload_n 0, 1) := by decide +kernel
theorem dX8_lost_68 : decode cX8_lost 68 = .ok (.getfield 16, 3) := by decide +kernel
theorem dX8_lost_71 : decode cX8_lost 71 = .ok (.iconst 4, 1) := by decide +kernel
theorem dX8_lost_72 : decode cX8_lost 72 = .ok (.iload 4, 2) := by decide +kernel
theorem dX8_lost_74 : decode cX8_lost 74 = .ok (.iastore, 1) := by decide +kernel
theorem dX8_lost_75 : decode cX8_lost 75 = .ok (.aload_n 0, 1) := by decide +kernel
theorem dX8_lost_76 : decode cX8_lost 76 = .ok (.iload_n 1, 1) := by decide +kernel
theorem dX8_lost_77 : decode cX8_lost 77 = .ok (.iload_n 2, 1) := by decide +kernel
theorem dX8_lost_78 : decode cX8_lost 78 = .ok (.invokevirtual 212, 3) := by decide +kernel
theorem dX8_lost_81 : decode cX8_lost 81 = .ok (.istore 7, 2) := by decide +kernel
theorem dX8_lost_83 : decode cX8_lost 83 = .ok (.aload_n 0, 1) := by decide +kernel
theorem dX8_lost_84 : decode cX8_lost 84 = .ok (.getfield 16, 3) := by decide +kernel
theorem dX8_lost_87 : decode cX8_lost 87 = .ok (.iconst 4, 1) := by decide +kernel
theorem dX8_lost_88 : decode cX8_lost 88 = .ok (.iconst 0, 1) := by decide +kernel
theorem dX8_lost_89 : decode cX8_lost 89 = .ok (.iastore, 1) := by decide +kernel
theorem dX8_lost_90 : decode cX8_lost 90 = .ok (.aload_n 0, 1) := by decide +kernel
theorem dX8_lost_91 : decode cX8_lost 91 = .ok (.iload_n 1, 1) := by decide +kernel
theorem dX8_lost_92 : decode cX8_lost 92 = .ok (.iload_n 2, 1) := by decide +kernel
theorem dX8_lost_93 : decode cX8_lost 93 = .ok (.invokevirtual 212, 3) := by decide +kernel
theorem dX8_lost_96 : decode cX8_lost 96 = .ok (.istore 8, 2) := by decide +kernel
theorem dX8_lost_98 : decode cX8_lost 98 = .ok (.aload_n 0, 1) := by decide +kernel
theorem dX8_lost_99 : decode cX8_lost 99 = .ok (.getfield 16, 3) := by decide +kernel
theorem dX8_lost_102 : decode cX8_lost 102 = .ok (.iconst 3, 1) := by decide +kernel
theorem dX8_lost_103 : decode cX8_lost 103 = .ok (.iload 5, 2) := by decide +kernel
theorem dX8_lost_105 : decode cX8_lost 105 = .ok (.iastore, 1) := by decide +kernel
theorem dX8_lost_106 : decode cX8_lost 106 = .ok (.aload_n 0, 1) := by decide +kernel
theorem dX8_lost_107 : decode cX8_lost 107 = .ok (.getfield 16, 3) := by decide +kernel
theorem dX8_lost_110 : decode cX8_lost 110 = .ok (.iconst 4, 1) := by decide +kernel
theorem dX8_lost_111 : decode cX8_lost 111 = .ok (.iload 6, 2) := by decide +kernel
theorem dX8_lost_113 : decode cX8_lost 113 = .ok (.iastore, 1) := by decide +kernel
theorem dX8_lost_114 : decode cX8_lost 114 = .ok (.iload 7, 2) := by decide +kernel
theorem dX8_lost_116 : decode cX8_lost 116 = .ok (.ldc 194, 2) := by decide +kernel
theorem dX8_lost_118 : decode cX8_lost 118 = .ok (.if_icmp .ge 10, 3) := by decide +kernel
theorem dX8_lost_121 : decode cX8_lost 121 = .ok (.iload 8, 2) := by decide +kernel
theorem dX8_lost_123 : decode cX8_lost 123 = .ok (.ldc 194, 2) := by decide +kernel
theorem dX8_lost_125 : decode cX8_lost 125 = .ok (.if_icmp .lt 8, 3) := by decide +kernel
theorem dX8_lost_128 : decode cX8_lost 128 = .ok (.bipush (-4), 2) := by decide +kernel
theorem dX8_lost_130 : decode cX8_lost 130 = .ok (.goto 8, 3) := by decide +kernel
theorem dX8_lost_133 : decode cX8_lost 133 = .ok (.iload 7, 2) := by decide +kernel
theorem dX8_lost_135 : decode cX8_lost 135 = .ok (.iload 8, 2) := by decide +kernel
theorem dX8_lost_137 : decode cX8_lost 137 = .ok (.isub, 1) := by decide +kernel
theorem dX8_lost_138 : decode cX8_lost 138 = .ok (.ireturn, 1) := by decide +kernel
theorem dX8_touched_0 : decode cX8_touched 0 = .ok (.aload_n 0, 1) := by decide +kernel
theorem dX8_touched_1 : decode cX8_touched 1 = .ok (.iload_n 1, 1) := by decide +kernel
theorem dX8_touched_2 : decode cX8_touched 2 = .ok (.invokevirtual 179, 3) := by decide +kernel
theorem dX8_touched_5 : decode cX8_touched 5 = .ok (.ifCond .eq 25, 3) := by decide +kernel
theorem dX8_touched_8 : decode cX8_touched 8 = .ok (.iload_n 2, 1) := by decide +kernel
theorem dX8_touched_9 : decode cX8_touched 9 = .ok (.invokestatic 201, 3) := by decide +kernel
theorem dX8_touched_12 : decode cX8_touched 12 = .ok (.ifCond .eq 18, 3) := by decide +kernel
theorem dX8_touched_15 : decode cX8_touched 15 = .ok (.aload_n 0, 1) := by decide +kernel
theorem dX8_touched_16 : decode cX8_touched 16 = .ok (.getfield 69, 3) := by decide +kernel
theorem dX8_touched_19 : decode cX8_touched 19 = .ok (.ifCond .le 13, 3) := by decide +kernel
theorem dX8_touched_22 : decode cX8_touched 22 = .ok (.aload_n 0, 1) := by decide +kernel
theorem dX8_touched_23 : decode cX8_touched 23 = .ok (.iload_n 3, 1) := by decide +kernel
theorem dX8_touched_24 : decode cX8_touched 24 = .ok (.invokevirtual 104, 3) := by decide +kernel
theorem dX8_touched_27 : decode cX8_touched 27 = .ok (.ifCond .ne 5, 3) := by decide +kernel
theorem dX8_touched_30 : decode cX8_touched 30 = .ok (.iconst (-1), 1) := by decide +kernel
theorem dX8_touched_31 : decode cX8_touched 31 = .ok (.ireturn, 1) := by decide +kernel
theorem dX8_touched_32 : decode cX8_touched 32 = .ok (.aload_n 0, 1) := by decide +kernel
theorem dX8_touched_33 : decode cX8_touched 33 = .ok (.getfield 69, 3) := by decide +kernel
theorem dX8_touched_36 : decode cX8_touched 36 = .ok (.ifCond .ne 20, 3) := by decide +kernel
theorem dX8_touched_39 : decode cX8_touched 39 = .ok (.iload_n 3, 1) := by decide +kernel
theorem dX8_touched_40 : decode cX8_touched 40 = .ok (.ifCond .lt 9, 3) := by decide +kernel
theorem dX8_touched_43 : decode cX8_touched 43 = .ok (.iload_n 3, 1) := by decide +kernel
theorem dX8_touched_44 : decode cX8_touched 44 = .ok (.bipush 15, 2) := by decide +kernel
theorem dX8_touched_46 : decode cX8_touched 46 = .ok (.if_icmp .le 7, 3) := by decide +kernel
theorem dX8_touched_49 : decode cX8_touched 49 = .ok (.iconst (-1), 1) := by decide +kernel
theorem dX8_touched_50 : decode cX8_touched 50 = .ok (.goto 5, 3) := by decide +kernel
theorem dX8_touched_53 : decode cX8_touched 53 = .ok (.bipush (-2), 2) := by decide +kernel
theorem dX8_touched_55 : decode cX8_touched 55 = .ok (.ireturn, 1) := by decide +kernel
theorem dX8_touched_56 : decode cX8_touched 56 = .ok (.aload_n 0, 1) := by decide +kernel
theorem dX8_touched_57 : decode cX8_touched 57 = .ok (.getfield 16, 3) := by decide +kernel
theorem dX8_touched_60 : decode cX8_touched 60 = .ok (.iconst 1, 1) := by decide +kernel
theorem dX8_touched_61 : decode cX8_touched 61 = .ok (.iaload, 1) := by decide +kernel
theorem dX8_touched_62 : decode cX8_touched 62 = .ok (.istore 4, 2) := by decide +kernel
theorem dX8_touched_64 : decode cX8_touched 64 = .ok (.iconst 0, 1) := by decide +kernel
theorem dX8_touched_65 : decode cX8_touched 65 = .ok (.istore 5, 2) := by decide +kernel
theorem dX8_touched_67 : decode cX8_touched 67 = .ok (.iconst 0, 1) := by decide +kernel
theorem dX8_touched_68 : decode cX8_touched 68 = .ok (.istore 6, 2) := by decide +kernel
theorem dX8_touched_70 : decode cX8_touched 70 = .ok (.iload 6, 2) := by decide +kernel
theorem dX8_touched_72 : decode cX8_touched 72 = .ok (.bipush 10, 2) := by decide +kernel
theorem dX8_touched_74 : decode cX8_touched 74 = .ok (.if_icmp .ge 44, 3) := by decide +kernel
theorem dX8_touched_77 : decode cX8_touched 77 = .ok (.aload_n 0, 1) := by decide +kernel
theorem dX8_touched_78 : decode cX8_touched 78 = .ok (.getfield 16, 3) := by decide +kernel
theorem dX8_touched_81 : decode cX8_touched 81 = .ok (.iconst 1, 1) := by decide +kernel
theorem dX8_touched_82 : decode cX8_touched 82 = .ok (.iload 6, 2) := by decide +kernel
theorem dX8_touched_84 : decode cX8_touched 84 = .ok (.iastore, 1) := by decide +kernel
theorem dX8_touched_85 : decode cX8_touched 85 = .ok (.aload_n 0, 1) := by decide +kernel
theorem dX8_touched_86 : decode cX8_touched 86 = .ok (.iload_n 1, 1) := by decide +kernel
theorem dX8_touched_87 : decode cX8_touched 87 = .ok (.iload_n 2, 1) := by decide +kernel
theorem dX8_touched_88 : decode cX8_touched 88 = .ok (.invokevirtual 206, 3) := by decide +kernel
theorem dX8_touched_91 : decode cX8_touched 91 = .ok (.iload 5, 2) := by decide +kernel
theorem dX8_touched_93 : decode cX8_touched 93 = .ok (.aload_n 0, 1) := by decide +kernel
theorem dX8_touched_94 : decode cX8_touched 94 = .ok (.getfield 188, 3) := by decide +kernel
theorem dX8_touched_97 : decode cX8_touched 97 = .ok (.iload_n 3, 1) := by decide +kernel
theorem dX8_touched_98 : decode cX8_touched 98 = .ok (.if_icmp .ne 10, 3) := by decide +kernel
theorem dX8_touched_101 : decode cX8_touched 101 = .ok (.iconst 1, 1) := by decide +kernel
theorem dX8_touched_102 : decode cX8_touched 102 = .ok (.iload 6, 2) := by decide +kernel
theorem dX8_touched_104 : decode cX8_touched 104 = .ok (.ishl, 1) := by decide +kernel
theorem dX8_touched_105 : decode cX8_touched 105 = .ok (.goto 4, 3) := by decide +kernel
theorem dX8_touched_108 : decode cX8_touched 108 = .ok (.iconst 0, 1) := by decide +kernel
theorem dX8_touched_109 : decode cX8_touched 109 = .ok (.ior, 1) := by decide +kernel
theorem dX8_touched_110 : decode cX8_touched 110 = .ok (.istore 5, 2) := by decide +kernel
theorem dX8_touched_112 : decode cX8_touched 112 = .ok (.iinc 6 1, 3) := by decide +kernel
theorem dX8_touched_115 : decode cX8_touched 115 = .ok (.goto (-45), 3) := by decide +kernel
theorem dX8_touched_118 : decode cX8_touched 118 = .ok (.aload_n 0, 1) := by decide +kernel
theorem dX8_touched_119 : decode cX8_touched 119 = .ok (.getfield 16, 3) := by decide +kernel
theorem dX8_touched_122 : decode cX8_touched 122 = .ok (.iconst 1, 1) := by decide +kernel
theorem dX8_touched_123 : decode cX8_touched 123 = .ok (.iload 4, 2) := by decide +kernel
theorem dX8_touched_125 : decode cX8_touched 125 = .ok (.iastore, 1) := by decide +kernel
theorem dX8_touched_126 : decode cX8_touched 126 = .ok (.iload 5, 2) := by decide +kernel
theorem dX8_touched_128 : decode cX8_touched 128 = .ok (.ireturn, 1) := by decide +kernel
theorem dX8_past_0 : decode cX8_past 0 = .ok (.aload_n 0, 1) := by decide +kernel
theorem dX8_past_1 : decode cX8_past 1 = .ok (.iload_n 1, 1) := by decide +kernel
theorem dX8_past_2 : decode cX8_past 2 = .ok (.invokevirtual 179, 3) := by decide +kernel
theorem dX8_past_5 : decode cX8_past 5 = .ok (.ifCond .eq 23, 3) := by decide +kernel
theorem dX8_past_8 : decode cX8_past 8 = .ok (.aload_n 0, 1) := by decide +kernel
theorem dX8_past_9 : decode cX8_past 9 = .ok (.iload_n 2, 1) := by decide +kernel
theorem dX8_past_10 : decode cX8_past 10 = .ok (.invokevirtual 104, 3) := by decide +kernel
theorem dX8_past_13 : decode cX8_past 13 = .ok (.ifCond .eq 15, 3) := by decide +kernel
theorem dX8_past_16 : decode cX8_past 16 = .ok (.iload_n 3, 1) := by decide +kernel
theorem dX8_past_17 : decode cX8_past 17 = .ok (.i2l, 1) := by decide +kernel
theorem dX8_past_18 : decode cX8_past 18 = .ok (.lconst 0, 1) := by decide +kernel
theorem dX8_past_19 : decode cX8_past 19 = .ok (.ldc2_w 236, 3) := by decide +kernel
theorem dX8_past_22 : decode cX8_past 22 = .ok (.invokestatic 73, 3) := by decide +kernel
theorem dX8_past_25 : decode cX8_past 25 = .ok (.ifCond .ne 5, 3) := by decide +kernel
theorem dX8_past_28 : decode cX8_past 28 = .ok (.iconst (-1), 1) := by decide +kernel
theorem dX8_past_29 : decode cX8_past 29 = .ok (.ireturn, 1) := by decide +kernel
theorem dX8_past_30 : decode cX8_past 30 = .ok (.aload_n 0, 1) := by decide +kernel
theorem dX8_past_31 : decode cX8_past 31 = .ok (.getfield 7, 3) := by decide +kernel
theorem dX8_past_34 : decode cX8_past 34 = .ok (.bipush 6, 2) := by decide +kernel
theorem dX8_past_36 : decode cX8_past 36 = .ok (.iload_n 2, 1) := by decide +kernel
theorem dX8_past_37 : decode cX8_past 37 = .ok (.imul, 1) := by decide +kernel
theorem dX8_past_38 : decode cX8_past 38 = .ok (.iconst 4, 1) := by decide +kernel
theorem dX8_past_39 : decode cX8_past 39 = .ok (.iadd, 1) := by decide +kernel
theorem dX8_past_40 : decode cX8_past 40 = .ok (.iaload, 1) := by decide +kernel
theorem dX8_past_41 : decode cX8_past 41 = .ok (.istore 4, 2) := by decide +kernel
theorem dX8_past_43 : decode cX8_past 43 = .ok (.iload 4, 2) := by decide +kernel
theorem dX8_past_45 : decode cX8_past 45 = .ok (.ifCond .ne 6, 3) := by decide +kernel
theorem dX8_past_48 : decode cX8_past 48 = .ok (.bipush (-2), 2) := by decide +kernel
theorem dX8_past_50 : decode cX8_past 50 = .ok (.ireturn, 1) := by decide +kernel
theorem dX8_past_51 : decode cX8_past 51 = .ok (.bipush (-4), 2) := by decide +kernel
theorem dX8_past_53 : decode cX8_past 53 = .ok (.istore 5, 2) := by decide +kernel
theorem dX8_past_55 : decode cX8_past 55 = .ok (.iconst 1, 1) := by decide +kernel
theorem dX8_past_56 : decode cX8_past 56 = .ok (.istore 6, 2) := by decide +kernel
theorem dX8_past_58 : decode cX8_past 58 = .ok (.iload 6, 2) := by decide +kernel
theorem dX8_past_60 : decode cX8_past 60 = .ok (.bipush 16, 2) := by decide +kernel
theorem dX8_past_62 : decode cX8_past 62 = .ok (.if_icmp .ge 41, 3) := by decide +kernel
theorem dX8_past_65 : decode cX8_past 65 = .ok (.iload 6, 2) := by decide +kernel
theorem dX8_past_67 : decode cX8_past 67 = .ok (.iload 6, 2) := by decide +kernel
theorem dX8_past_69 : decode cX8_past 69 = .ok (.imul, 1) := by decide +kernel
theorem dX8_past_70 : decode cX8_past 70 = .ok (.aload_n 0, 1) := by decide +kernel
theorem dX8_past_71 : decode cX8_past 71 = .ok (.getfield 19, 3) := by decide +kernel
theorem dX8_past_74 : decode cX8_past 74 = .ok (.iconst 3, 1) := by decide +kernel
theorem dX8_past_75 : decode cX8_past 75 = .ok (.iload_n 1, 1) := by decide +kernel
theorem dX8_past_76 : decode cX8_past 76 = .ok (.imul, 1) := by decide +kernel
theorem dX8_past_77 : decode cX8_past 77 = .ok (.iconst 1, 1) := by decide +kernel
theorem dX8_past_78 : decode cX8_past 78 = .ok (.iadd, 1) := by decide +kernel
theorem dX8_past_79 : decode cX8_past 79 = .ok (.iaload, 1) := by decide +kernel
theorem dX8_past_80 : decode cX8_past 80 = .ok (.imul, 1) := by decide +kernel
theorem dX8_past_81 : decode cX8_past 81 = .ok (.iload 4, 2) := by decide +kernel
theorem dX8_past_83 : decode cX8_past 83 = .ok (.idiv, 1) := by decide +kernel
theorem dX8_past_84 : decode cX8_past 84 = .ok (.iload_n 3, 1) := by decide +kernel
theorem dX8_past_85 : decode cX8_past 85 = .ok (.if_icmp .gt 8, 3) := by decide +kernel
theorem dX8_past_88 : decode cX8_past 88 = .ok (.iload 6, 2) := by decide +kernel
theorem dX8_past_90 : decode cX8_past 90 = .ok (.goto 5, 3) := by decide +kernel
theorem dX8_past_93 : decode cX8_past 93 = .ok (.iload 5, 2) := by decide +kernel
theorem dX8_past_95 : decode cX8_past 95 = .ok (.istore 5, 2) := by decide +kernel
theorem dX8_past_97 : decode cX8_past 97 = .ok (.iinc 6 1, 3) := by decide +kernel
theorem dX8_past_100 : decode cX8_past 100 = .ok (.goto (-42), 3) := by decide +kernel
theorem dX8_past_103 : decode cX8_past 103 = .ok (.iload 5, 2) := by decide +kernel
theorem dX8_past_105 : decode cX8_past 105 = .ok (.ireturn, 1) := by decide +kernel
theorem dX8_lay_0 : decode cX8_lay 0 = .ok (.iconst 0, 1) := by decide +kernel
theorem dX8_lay_1 : decode cX8_lay 1 = .ok (.istore_n 3, 1) := by decide +kernel
theorem dX8_lay_2 : decode cX8_lay 2 = .ok (.iload_n 3, 1) := by decide +kernel
theorem dX8_lay_3 : decode cX8_lay 3 = .ok (.aload_n 1, 1) := by decide +kernel
theorem dX8_lay_4 : decode cX8_lay 4 = .ok (.arraylength, 1) := by decide +kernel
theorem dX8_lay_5 : decode cX8_lay 5 = .ok (.if_icmp .ge 20, 3) := by decide +kernel
theorem dX8_lay_8 : decode cX8_lay 8 = .ok (.aload_n 0, 1) := by decide +kernel
theorem dX8_lay_9 : decode cX8_lay 9 = .ok (.getfield 54, 3) := by decide +kernel
theorem dX8_lay_12 : decode cX8_lay 12 = .ok (.iload_n 2, 1) := by decide +kernel
theorem dX8_lay_13 : decode cX8_lay 13 = .ok (.iload_n 3, 1) := by decide +kernel
theorem dX8_lay_14 : decode cX8_lay 14 = .ok (.iadd, 1) := by decide +kernel
theorem dX8_lay_15 : decode cX8_lay 15 = .ok (.aload_n 1, 1) := by decide +kernel
theorem dX8_lay_16 : decode cX8_lay 16 = .ok (.iload_n 3, 1) := by decide +kernel
theorem dX8_lay_17 : decode cX8_lay 17 = .ok (.iaload, 1) := by decide +kernel
theorem dX8_lay_18 : decode cX8_lay 18 = .ok (.iastore, 1) := by decide +kernel
theorem dX8_lay_19 : decode cX8_lay 19 = .ok (.iinc 3 1, 3) := by decide +kernel
theorem dX8_lay_22 : decode cX8_lay 22 = .ok (.goto (-20), 3) := by decide +kernel
theorem dX8_lay_25 : decode cX8_lay 25 = .ok (.iload_n 2, 1) := by decide +kernel
theorem dX8_lay_26 : decode cX8_lay 26 = .ok (.aload_n 1, 1) := by decide +kernel
theorem dX8_lay_27 : decode cX8_lay 27 = .ok (.arraylength, 1) := by decide +kernel
theorem dX8_lay_28 : decode cX8_lay 28 = .ok (.iadd, 1) := by decide +kernel
theorem dX8_lay_29 : decode cX8_lay 29 = .ok (.ireturn, 1) := by decide +kernel
theorem dX8_gives_0 : decode cX8_gives 0 = .ok (.iconst 0, 1) := by decide +kernel
theorem dX8_gives_1 : decode cX8_gives 1 = .ok (.istore_n 3, 1) := by decide +kernel
theorem dX8_gives_2 : decode cX8_gives 2 = .ok (.iload_n 3, 1) := by decide +kernel
theorem dX8_gives_3 : decode cX8_gives 3 = .ok (.aload_n 2, 1) := by decide +kernel
theorem dX8_gives_4 : decode cX8_gives 4 = .ok (.arraylength, 1) := by decide +kernel
theorem dX8_gives_5 : decode cX8_gives 5 = .ok (.if_icmp .ge 20, 3) := by decide +kernel
theorem dX8_gives_8 : decode cX8_gives 8 = .ok (.aload_n 2, 1) := by decide +kernel
theorem dX8_gives_9 : decode cX8_gives 9 = .ok (.iload_n 3, 1) := by decide +kernel
theorem dX8_gives_10 : decode cX8_gives 10 = .ok (.aload_n 0, 1) := by decide +kernel
theorem dX8_gives_11 : decode cX8_gives 11 = .ok (.getfield 54, 3) := by decide +kernel
theorem dX8_gives_14 : decode cX8_gives 14 = .ok (.iload_n 1, 1) := by decide +kernel
theorem dX8_gives_15 : decode cX8_gives 15 = .ok (.iload_n 3, 1) := by decide +kernel
theorem dX8_gives_16 : decode cX8_gives 16 = .ok (.iadd, 1) := by decide +kernel
theorem dX8_gives_17 : decode cX8_gives 17 = .ok (.iaload, 1) := by decide +kernel
theorem dX8_gives_18 : decode cX8_gives 18 = .ok (.iastore, 1) := by decide +kernel
theorem dX8_gives_19 : decode cX8_gives 19 = .ok (.iinc 3 1, 3) := by decide +kernel
theorem dX8_gives_22 : decode cX8_gives 22 = .ok (.goto (-20), 3) := by decide +kernel
theorem dX8_gives_25 : decode cX8_gives 25 = .ok (.iload_n 1, 1) := by decide +kernel
theorem dX8_gives_26 : decode cX8_gives 26 = .ok (.aload_n 2, 1) := by decide +kernel
theorem dX8_gives_27 : decode cX8_gives 27 = .ok (.arraylength, 1) := by decide +kernel
theorem dX8_gives_28 : decode cX8_gives 28 = .ok (.iadd, 1) := by decide +kernel
theorem dX8_gives_29 : decode cX8_gives 29 = .ok (.ireturn, 1) := by decide +kernel
theorem dX8_image_0 : decode cX8_image 0 = .ok (.aload_n 0, 1) := by decide +kernel
theorem dX8_image_1 : decode cX8_image 1 = .ok (.aload_n 0, 1) := by decide +kernel
theorem dX8_image_2 : decode cX8_image 2 = .ok (.getfield 7, 3) := by decide +kernel
theorem dX8_image_5 : decode cX8_image 5 = .ok (.iconst 0, 1) := by decide +kernel
theorem dX8_image_6 : decode cX8_image 6 = .ok (.invokevirtual 238, 3) := by decide +kernel
theorem dX8_image_9 : decode cX8_image 9 = .ok (.istore_n 1, 1) := by decide +kernel
theorem dX8_image_10 : decode cX8_image 10 = .ok (.aload_n 0, 1) := by decide +kernel
theorem dX8_image_11 : decode cX8_image 11 = .ok (.aload_n 0, 1) := by decide +kernel
theorem dX8_image_12 : decode cX8_image 12 = .ok (.getfield 13, 3) := by decide +kernel
theorem dX8_image_15 : decode cX8_image 15 = .ok (.iload_n 1, 1) := by decide +kernel
theorem dX8_image_16 : decode cX8_image 16 = .ok (.invokevirtual 238, 3) := by decide +kernel
theorem dX8_image_19 : decode cX8_image 19 = .ok (.istore_n 1, 1) := by decide +kernel
theorem dX8_image_20 : decode cX8_image 20 = .ok (.aload_n 0, 1) := by decide +kernel
theorem dX8_image_21 : decode cX8_image 21 = .ok (.aload_n 0, 1) := by decide +kernel
theorem dX8_image_22 : decode cX8_image 22 = .ok (.getfield 16, 3) := by decide +kernel
theorem dX8_image_25 : decode cX8_image 25 = .ok (.iload_n 1, 1) := by decide +kernel
theorem dX8_image_26 : decode cX8_image 26 = .ok (.invokevirtual 238, 3) := by decide +kernel
theorem dX8_image_29 : decode cX8_image 29 = .ok (.istore_n 1, 1) := by decide +kernel
theorem dX8_image_30 : decode cX8_image 30 = .ok (.aload_n 0, 1) := by decide +kernel
theorem dX8_image_31 : decode cX8_image 31 = .ok (.aload_n 0, 1) := by decide +kernel
theorem dX8_image_32 : decode cX8_image 32 = .ok (.getfield 19, 3) := by decide +kernel
theorem dX8_image_35 : decode cX8_image 35 = .ok (.iload_n 1, 1) := by decide +kernel
theorem dX8_image_36 : decode cX8_image 36 = .ok (.invokevirtual 238, 3) := by decide +kernel
theorem dX8_image_39 : decode cX8_image 39 = .ok (.istore_n 1, 1) := by decide +kernel
theorem dX8_image_40 : decode cX8_image 40 = .ok (.aload_n 0, 1) := by decide +kernel
theorem dX8_image_41 : decode cX8_image 41 = .ok (.getfield 54, 3) := by decide +kernel
theorem dX8_image_44 : decode cX8_image 44 = .ok (.iload_n 1, 1) := by decide +kernel
theorem dX8_image_45 : decode cX8_image 45 = .ok (.aload_n 0, 1) := by decide +kernel
theorem dX8_image_46 : decode cX8_image 46 = .ok (.getfield 69, 3) := by decide +kernel
theorem dX8_image_49 : decode cX8_image 49 = .ok (.iastore, 1) := by decide +kernel
theorem dX8_image_50 : decode cX8_image 50 = .ok (.aload_n 0, 1) := by decide +kernel
theorem dX8_image_51 : decode cX8_image 51 = .ok (.getfield 54, 3) := by decide +kernel
theorem dX8_image_54 : decode cX8_image 54 = .ok (.iload_n 1, 1) := by decide +kernel
theorem dX8_image_55 : decode cX8_image 55 = .ok (.iconst 1, 1) := by decide +kernel
theorem dX8_image_56 : decode cX8_image 56 = .ok (.iadd, 1) := by decide +kernel
theorem dX8_image_57 : decode cX8_image 57 = .ok (.aload_n 0, 1) := by decide +kernel
theorem dX8_image_58 : decode cX8_image 58 = .ok (.getfield 77, 3) := by decide +kernel
theorem dX8_image_61 : decode cX8_image 61 = .ok (.iastore, 1) := by decide +kernel
theorem dX8_image_62 : decode cX8_image 62 = .ok (.aload_n 0, 1) := by decide +kernel
theorem dX8_image_63 : decode cX8_image 63 = .ok (.iconst 1, 1) := by decide +kernel
theorem dX8_image_64 : decode cX8_image 64 = .ok (.putfield 242, 3) := by decide +kernel
theorem dX8_image_67 : decode cX8_image 67 = .ok (.iconst 1, 1) := by decide +kernel
theorem dX8_image_68 : decode cX8_image 68 = .ok (.ireturn, 1) := by decide +kernel
theorem dX8_restore_0 : decode cX8_restore 0 = .ok (.aload_n 0, 1) := by decide +kernel
theorem dX8_restore_1 : decode cX8_restore 1 = .ok (.getfield 242, 3) := by decide +kernel
theorem dX8_restore_4 : decode cX8_restore 4 = .ok (.ifCond .ne 6, 3) := by decide +kernel
theorem dX8_restore_7 : decode cX8_restore 7 = .ok (.bipush (-4), 2) := by decide +kernel
theorem dX8_restore_9 : decode cX8_restore 9 = .ok (.ireturn, 1) := by decide +kernel
theorem dX8_restore_10 : decode cX8_restore 10 = .ok (.aload_n 0, 1) := by decide +kernel
theorem dX8_restore_11 : decode cX8_restore 11 = .ok (.iconst 0, 1) := by decide +kernel
theorem dX8_restore_12 : decode cX8_restore 12 = .ok (.aload_n 0, 1) := by decide +kernel
theorem dX8_restore_13 : decode cX8_restore 13 = .ok (.getfield 7, 3) := by decide +kernel
theorem dX8_restore_16 : decode cX8_restore 16 = .ok (.invokevirtual 245, 3) := by decide +kernel
theorem dX8_restore_19 : decode cX8_restore 19 = .ok (.istore_n 1, 1) := by decide +kernel
theorem dX8_restore_20 : decode cX8_restore 20 = .ok (.aload_n 0, 1) := by decide +kernel
theorem dX8_restore_21 : decode cX8_restore 21 = .ok (.iload_n 1, 1) := by decide +kernel
theorem dX8_restore_22 : decode cX8_restore 22 = .ok (.aload_n 0, 1) := by decide +kernel
theorem dX8_restore_23 : decode cX8_restore 23 = .ok (.getfield 13, 3) := by decide +kernel
theorem dX8_restore_26 : decode cX8_restore 26 = .ok (.invokevirtual 245, 3) := by decide +kernel
theorem dX8_restore_29 : decode cX8_restore 29 = .ok (.istore_n 1, 1) := by decide +kernel
theorem dX8_restore_30 : decode cX8_restore 30 = .ok (.aload_n 0, 1) := by decide +kernel
theorem dX8_restore_31 : decode cX8_restore 31 = .ok (.iload_n 1, 1) := by decide +kernel
theorem dX8_restore_32 : decode cX8_restore 32 = .ok (.aload_n 0, 1) := by decide +kernel
theorem dX8_restore_33 : decode cX8_restore 33 = .ok (.getfield 16, 3) := by decide +kernel
theorem dX8_restore_36 : decode cX8_restore 36 = .ok (.invokevirtual 245, 3) := by decide +kernel
theorem dX8_restore_39 : decode cX8_restore 39 = .ok (.istore_n 1, 1) := by decide +kernel
theorem dX8_restore_40 : decode cX8_restore 40 = .ok (.aload_n 0, 1) := by decide +kernel
theorem dX8_restore_41 : decode cX8_restore 41 = .ok (.iload_n 1, 1) := by decide +kernel
theorem dX8_restore_42 : decode cX8_restore 42 = .ok (.aload_n 0, 1) := by decide +kernel
theorem dX8_restore_43 : decode cX8_restore 43 = .ok (.getfield 19, 3) := by decide +kernel
theorem dX8_restore_46 : decode cX8_restore 46 = .ok (.invokevirtual 245, 3) := by decide +kernel
theorem dX8_restore_49 : decode cX8_restore 49 = .ok (.istore_n 1, 1) := by decide +kernel
theorem dX8_restore_50 : decode cX8_restore 50 = .ok (.aload_n 0, 1) := by decide +kernel
theorem dX8_restore_51 : decode cX8_restore 51 = .ok (.aload_n 0, 1) := by decide +kernel
theorem dX8_restore_52 : decode cX8_restore 52 = .ok (.getfield 54, 3) := by decide +kernel
theorem dX8_restore_55 : decode cX8_restore 55 = .ok (.iload_n 1, 1) := by decide +kernel
theorem dX8_restore_56 : decode cX8_restore 56 = .ok (.iaload, 1) := by decide +kernel
theorem dX8_restore_57 : decode cX8_restore 57 = .ok (.putfield 69, 3) := by decide +kernel
theorem dX8_restore_60 : decode cX8_restore 60 = .ok (.aload_n 0, 1) := by decide +kernel
theorem dX8_restore_61 : decode cX8_restore 61 = .ok (.aload_n 0, 1) := by decide +kernel
theorem dX8_restore_62 : decode cX8_restore 62 = .ok (.getfield 54, 3) := by decide +kernel
theorem dX8_restore_65 : decode cX8_restore 65 = .ok (.iload_n 1, 1) := by decide +kernel
theorem dX8_restore_66 : decode cX8_restore 66 = .ok (.iconst 1, 1) := by decide +kernel
theorem dX8_restore_67 : decode cX8_restore 67 = .ok (.iadd, 1) := by decide +kernel
theorem dX8_restore_68 : decode cX8_restore 68 = .ok (.iaload, 1) := by decide +kernel
theorem dX8_restore_69 : decode cX8_restore 69 = .ok (.putfield 77, 3) := by decide +kernel
theorem dX8_restore_72 : decode cX8_restore 72 = .ok (.iconst 1, 1) := by decide +kernel
theorem dX8_restore_73 : decode cX8_restore 73 = .ok (.ireturn, 1) := by decide +kernel
theorem dX8_isSheet_0 : decode cX8_isSheet 0 = .ok (.iload_n 0, 1) := by decide +kernel
theorem dX8_isSheet_1 : decode cX8_isSheet 1 = .ok (.i2l, 1) := by decide +kernel
theorem dX8_isSheet_2 : decode cX8_isSheet 2 = .ok (.lconst 0, 1) := by decide +kernel
theorem dX8_isSheet_3 : decode cX8_isSheet 3 = .ok (.ldc2_w 204, 3) := by decide +kernel
theorem dX8_isSheet_6 : decode cX8_isSheet 6 = .ok (.invokestatic 73, 3) := by decide +kernel
theorem dX8_isSheet_9 : decode cX8_isSheet 9 = .ok (.ireturn, 1) := by decide +kernel
theorem dX8_isLane_0 : decode cX8_isLane 0 = .ok (.iload_n 0, 1) := by decide +kernel
theorem dX8_isLane_1 : decode cX8_isLane 1 = .ok (.i2l, 1) := by decide +kernel
theorem dX8_isLane_2 : decode cX8_isLane 2 = .ok (.lconst 0, 1) := by decide +kernel
theorem dX8_isLane_3 : decode cX8_isLane 3 = .ok (.ldc2_w 215, 3) := by decide +kernel
theorem dX8_isLane_6 : decode cX8_isLane 6 = .ok (.invokestatic 73, 3) := by decide +kernel
theorem dX8_isLane_9 : decode cX8_isLane 9 = .ok (.ireturn, 1) := by decide +kernel
theorem dX8_finds_0 : decode cX8_finds 0 = .ok (.aload_n 0, 1) := by decide +kernel
theorem dX8_finds_1 : decode cX8_finds 1 = .ok (.getfield 57, 3) := by decide +kernel
theorem dX8_finds_4 : decode cX8_finds 4 = .ok (.iload_n 1, 1) := by decide +kernel
theorem dX8_finds_5 : decode cX8_finds 5 = .ok (.iaload, 1) := by decide +kernel
theorem dX8_finds_6 : decode cX8_finds 6 = .ok (.ifCond .ge 6, 3) := by decide +kernel
theorem dX8_finds_9 : decode cX8_finds 9 = .ok (.bipush (-11), 2) := by decide +kernel
theorem dX8_finds_11 : decode cX8_finds 11 = .ok (.ireturn, 1) := by decide +kernel
theorem dX8_finds_12 : decode cX8_finds 12 = .ok (.aload_n 0, 1) := by decide +kernel
theorem dX8_finds_13 : decode cX8_finds 13 = .ok (.getfield 57, 3) := by decide +kernel
theorem dX8_finds_16 : decode cX8_finds 16 = .ok (.iload_n 1, 1) := by decide +kernel
theorem dX8_finds_17 : decode cX8_finds 17 = .ok (.iaload, 1) := by decide +kernel
theorem dX8_finds_18 : decode cX8_finds 18 = .ok (.iload_n 2, 1) := by decide +kernel
theorem dX8_finds_19 : decode cX8_finds 19 = .ok (.if_icmp .eq 6, 3) := by decide +kernel
theorem dX8_finds_22 : decode cX8_finds 22 = .ok (.bipush (-12), 2) := by decide +kernel
theorem dX8_finds_24 : decode cX8_finds 24 = .ok (.ireturn, 1) := by decide +kernel
theorem dX8_finds_25 : decode cX8_finds 25 = .ok (.iload_n 3, 1) := by decide +kernel
theorem dX8_finds_26 : decode cX8_finds 26 = .ok (.ifCond .lt 20, 3) := by decide +kernel
theorem dX8_finds_29 : decode cX8_finds 29 = .ok (.iload_n 3, 1) := by decide +kernel
theorem dX8_finds_30 : decode cX8_finds 30 = .ok (.i2l, 1) := by decide +kernel
theorem dX8_finds_31 : decode cX8_finds 31 = .ok (.iload 4, 2) := by decide +kernel
theorem dX8_finds_33 : decode cX8_finds 33 = .ok (.i2l, 1) := by decide +kernel
theorem dX8_finds_34 : decode cX8_finds 34 = .ok (.ladd, 1) := by decide +kernel
theorem dX8_finds_35 : decode cX8_finds 35 = .ok (.aload_n 0, 1) := by decide +kernel
theorem dX8_finds_36 : decode cX8_finds 36 = .ok (.getfield 60, 3) := by decide +kernel
theorem dX8_finds_39 : decode cX8_finds 39 = .ok (.iload_n 1, 1) := by decide +kernel
theorem dX8_finds_40 : decode cX8_finds 40 = .ok (.iaload, 1) := by decide +kernel
theorem dX8_finds_41 : decode cX8_finds 41 = .ok (.i2l, 1) := by decide +kernel
theorem dX8_finds_42 : decode cX8_finds 42 = .ok (.lcmp, 1) := by decide +kernel
theorem dX8_finds_43 : decode cX8_finds 43 = .ok (.ifCond .le 8, 3) := by decide +kernel
theorem dX8_finds_46 : decode cX8_finds 46 = .ok (.bipush (-13), 2) := by decide +kernel
theorem dX8_finds_48 : decode cX8_finds 48 = .ok (.goto 4, 3) := by decide +kernel
theorem dX8_finds_51 : decode cX8_finds 51 = .ok (.iconst 0, 1) := by decide +kernel
theorem dX8_finds_52 : decode cX8_finds 52 = .ok (.ireturn, 1) := by decide +kernel
theorem dX8_gauged_0 : decode cX8_gauged 0 = .ok (.iload_n 1, 1) := by decide +kernel
theorem dX8_gauged_1 : decode cX8_gauged 1 = .ok (.invokestatic 249, 3) := by decide +kernel
theorem dX8_gauged_4 : decode cX8_gauged 4 = .ok (.ifCond .eq 36, 3) := by decide +kernel
theorem dX8_gauged_7 : decode cX8_gauged 7 = .ok (.iload_n 2, 1) := by decide +kernel
theorem dX8_gauged_8 : decode cX8_gauged 8 = .ok (.invokestatic 252, 3) := by decide +kernel
theorem dX8_gauged_11 : decode cX8_gauged 11 = .ok (.ifCond .eq 29, 3) := by decide +kernel
theorem dX8_gauged_14 : decode cX8_gauged 14 = .ok (.iload 4, 2) := by decide +kernel
theorem dX8_gauged_16 : decode cX8_gauged 16 = .ok (.i2l, 1) := by decide +kernel
theorem dX8_gauged_17 : decode cX8_gauged 17 = .ok (.lconst 1, 1) := by decide +kernel
theorem dX8_gauged_18 : decode cX8_gauged 18 = .ok (.ldc2_w 122, 3) := by decide +kernel
theorem dX8_gauged_21 : decode cX8_gauged 21 = .ok (.invokestatic 73, 3) := by decide +kernel
theorem dX8_gauged_24 : decode cX8_gauged 24 = .ok (.ifCond .eq 16, 3) := by decide +kernel
theorem dX8_gauged_27 : decode cX8_gauged 27 = .ok (.iload 5, 2) := by decide +kernel
theorem dX8_gauged_29 : decode cX8_gauged 29 = .ok (.i2l, 1) := by decide +kernel
theorem dX8_gauged_30 : decode cX8_gauged 30 = .ok (.lconst 0, 1) := by decide +kernel
theorem dX8_gauged_31 : decode cX8_gauged 31 = .ok (.ldc2_w 215, 3) := by decide +kernel
theorem dX8_gauged_34 : decode cX8_gauged 34 = .ok (.invokestatic 73, 3) := by decide +kernel
theorem dX8_gauged_37 : decode cX8_gauged 37 = .ok (.ifCond .ne 5, 3) := by decide +kernel
theorem dX8_gauged_40 : decode cX8_gauged 40 = .ok (.iconst (-1), 1) := by decide +kernel
theorem dX8_gauged_41 : decode cX8_gauged 41 = .ok (.ireturn, 1) := by decide +kernel
theorem dX8_gauged_42 : decode cX8_gauged 42 = .ok (.aload_n 0, 1) := by decide +kernel
theorem dX8_gauged_43 : decode cX8_gauged 43 = .ok (.iload_n 1, 1) := by decide +kernel
theorem dX8_gauged_44 : decode cX8_gauged 44 = .ok (.iload_n 2, 1) := by decide +kernel
theorem dX8_gauged_45 : decode cX8_gauged 45 = .ok (.iload_n 3, 1) := by decide +kernel
theorem dX8_gauged_46 : decode cX8_gauged 46 = .ok (.iconst 2, 1) := by decide +kernel
theorem dX8_gauged_47 : decode cX8_gauged 47 = .ok (.iload 4, 2) := by decide +kernel
theorem dX8_gauged_49 : decode cX8_gauged 49 = .ok (.imul, 1) := by decide +kernel
theorem dX8_gauged_50 : decode cX8_gauged 50 = .ok (.invokevirtual 255, 3) := by decide +kernel
theorem dX8_gauged_53 : decode cX8_gauged 53 = .ok (.istore 6, 2) := by decide +kernel
theorem dX8_gauged_55 : decode cX8_gauged 55 = .ok (.iload 6, 2) := by decide +kernel
theorem dX8_gauged_57 : decode cX8_gauged 57 = .ok (.ifCond .ge 6, 3) := by decide +kernel
theorem dX8_gauged_60 : decode cX8_gauged 60 = .ok (.iload 6, 2) := by decide +kernel
theorem dX8_gauged_62 : decode cX8_gauged 62 = .ok (.ireturn, 1) := by decide +kernel
theorem dX8_gauged_63 : decode cX8_gauged 63 = .ok (.bipush 24, 2) := by decide +kernel
theorem dX8_gauged_65 : decode cX8_gauged 65 = .ok (.iload_n 1, 1) := by decide +kernel
theorem dX8_gauged_66 : decode cX8_gauged 66 = .ok (.imul, 1) := by decide +kernel
theorem dX8_gauged_67 : decode cX8_gauged 67 = .ok (.iload_n 3, 1) := by decide +kernel
theorem dX8_gauged_68 : decode cX8_gauged 68 = .ok (.iadd, 1) := by decide +kernel
theorem dX8_gauged_69 : decode cX8_gauged 69 = .ok (.istore 7, 2) := by decide +kernel
theorem dX8_gauged_71 : decode cX8_gauged 71 = .ok (.iconst 0, 1) := by decide +kernel
theorem dX8_gauged_72 : decode cX8_gauged 72 = .ok (.istore 8, 2) := by decide +kernel
theorem dX8_gauged_74 : decode cX8_gauged 74 = .ok (.iload 8, 2) := by decide +kernel
theorem dX8_gauged_76 : decode cX8_gauged 76 = .ok (.iload 4, 2) := by decide +kernel
theorem dX8_gauged_78 : decode cX8_gauged 78 = .ok (.if_icmp .ge 30, 3) := by decide +kernel
theorem dX8_gauged_81 : decode cX8_gauged 81 = .ok (.aload_n 0, 1) := by decide +kernel
theorem dX8_gauged_82 : decode cX8_gauged 82 = .ok (.getfield 63, 3) := by decide +kernel
theorem dX8_gauged_85 : decode cX8_gauged 85 = .ok (.iload 7, 2) := by decide +kernel
theorem dX8_gauged_87 : decode cX8_gauged 87 = .ok (.iconst 2, 1) := by decide +kernel
theorem dX8_gauged_88 : decode cX8_gauged 88 = .ok (.iload 8, 2) := by decide +kernel
theorem dX8_gauged_90 : decode cX8_gauged 90 = .ok (.imul, 1) := by decide +kernel
theorem dX8_gauged_91 : decode cX8_gauged 91 = .ok (.iadd, 1) := by decide +kernel
theorem dX8_gauged_92 : decode cX8_gauged 92 = .ok (.iaload, 1) := by decide +kernel
theorem dX8_gauged_93 : decode cX8_gauged 93 = .ok (.invokestatic 201, 3) := by decide +kernel
theorem dX8_gauged_96 : decode cX8_gauged 96 = .ok (.ifCond .ne 6, 3) := by decide +kernel
theorem dX8_gauged_99 : decode cX8_gauged 99 = .ok (.bipush (-2), 2) := by decide +kernel
theorem dX8_gauged_101 : decode cX8_gauged 101 = .ok (.ireturn, 1) := by decide +kernel
theorem dX8_gauged_102 : decode cX8_gauged 102 = .ok (.iinc 8 1, 3) := by decide +kernel
theorem dX8_gauged_105 : decode cX8_gauged 105 = .ok (.goto (-31), 3) := by decide +kernel
theorem dX8_gauged_108 : decode cX8_gauged 108 = .ok (.aload_n 0, 1) := by decide +kernel
theorem dX8_gauged_109 : decode cX8_gauged 109 = .ok (.getfield 16, 3) := by decide +kernel
theorem dX8_gauged_112 : decode cX8_gauged 112 = .ok (.iconst 0, 1) := by decide +kernel
theorem dX8_gauged_113 : decode cX8_gauged 113 = .ok (.iaload, 1) := by decide +kernel
theorem dX8_gauged_114 : decode cX8_gauged 114 = .ok (.istore 8, 2) := by decide +kernel
theorem dX8_gauged_116 : decode cX8_gauged 116 = .ok (.iconst 0, 1) := by decide +kernel
theorem dX8_gauged_117 : decode cX8_gauged 117 = .ok (.istore 9, 2) := by decide +kernel
theorem dX8_gauged_119 : decode cX8_gauged 119 = .ok (.bipush (-4), 2) := by decide +kernel
theorem dX8_gauged_121 : decode cX8_gauged 121 = .ok (.istore 10, 2) := by decide +kernel
theorem dX8_gauged_123 : decode cX8_gauged 123 = .ok (.bipush (-4), 2) := by decide +kernel
theorem dX8_gauged_125 : decode cX8_gauged 125 = .ok (.istore 11, 2) := by decide +kernel
theorem dX8_gauged_127 : decode cX8_gauged 127 = .ok (.iconst 0, 1) := by decide +kernel
theorem dX8_gauged_128 : decode cX8_gauged 128 = .ok (.istore 12, 2) := by decide +kernel
theorem dX8_gauged_130 : decode cX8_gauged 130 = .ok (.iload 12, 2) := by decide +kernel
theorem dX8_gauged_132 : decode cX8_gauged 132 = .ok (.bipush 91, 2) := by decide +kernel
theorem dX8_gauged_134 : decode cX8_gauged 134 = .ok (.if_icmp .ge 129, 3) := by decide +kernel
theorem dX8_gauged_137 : decode cX8_gauged 137 = .ok (.aload_n 0, 1) := by decide +kernel
theorem dX8_gauged_138 : decode cX8_gauged 138 = .ok (.getfield 16, 3) := by decide +kernel
theorem dX8_gauged_141 : decode cX8_gauged 141 = .ok (.iconst 0, 1) := by decide +kernel
theorem dX8_gauged_142 : decode cX8_gauged 142 = .ok (.iload 12, 2) := by decide +kernel
theorem dX8_gauged_144 : decode cX8_gauged 144 = .ok (.iastore, 1) := by decide +kernel
theorem dX8_gauged_145 : decode cX8_gauged 145 = .ok (.iconst 1, 1) := by decide +kernel
theorem dX8_gauged_146 : decode cX8_gauged 146 = .ok (.istore 13, 2) := by decide +kernel
theorem dX8_gauged_148 : decode cX8_gauged 148 = .ok (.iconst 0, 1) := by decide +kernel
theorem dX8_gauged_149 : decode cX8_gauged 149 = .ok (.istore 14, 2) := by decide +kernel
theorem dX8_gauged_151 : decode cX8_gauged 151 = .ok (.iload 14, 2) := by decide +kernel
theorem dX8_gauged_153 : decode cX8_gauged 153 = .ok (.iload 4, 2) := by decide +kernel
theorem dX8_gauged_155 : decode cX8_gauged 155 = .ok (.if_icmp .ge 54, 3) := by decide +kernel
theorem dX8_gauged_158 : decode cX8_gauged 158 = .ok (.iload 13, 2) := by decide +kernel
theorem dX8_gauged_160 : decode cX8_gauged 160 = .ok (.ifCond .eq 40, 3) := by decide +kernel
theorem dX8_gauged_163 : decode cX8_gauged 163 = .ok (.aload_n 0, 1) := by decide +kernel
theorem dX8_gauged_164 : decode cX8_gauged 164 = .ok (.aload_n 0, 1) := by decide +kernel
theorem dX8_gauged_165 : decode cX8_gauged 165 = .ok (.getfield 63, 3) := by decide +kernel
theorem dX8_gauged_168 : decode cX8_gauged 168 = .ok (.iload 7, 2) := by decide +kernel
theorem dX8_gauged_170 : decode cX8_gauged 170 = .ok (.iconst 2, 1) := by decide +kernel
theorem dX8_gauged_171 : decode cX8_gauged 171 = .ok (.iload 14, 2) := by decide +kernel
theorem dX8_gauged_173 : decode cX8_gauged 173 = .ok (.imul, 1) := by decide +kernel
theorem dX8_gauged_174 : decode cX8_gauged 174 = .ok (.iadd, 1) := by decide +kernel
theorem dX8_gauged_175 : decode cX8_gauged 175 = .ok (.iaload, 1) := by decide +kernel
theorem dX8_gauged_176 : decode cX8_gauged 176 = .ok (.invokevirtual 162, 3) := by decide +kernel
theorem dX8_gauged_179 : decode cX8_gauged 179 = .ok (.aload_n 0, 1) := by decide +kernel
theorem dX8_gauged_180 : decode cX8_gauged 180 = .ok (.getfield 63, 3) := by decide +kernel
theorem dX8_gauged_183 : decode cX8_gauged 183 = .ok (.iload 7, 2) := by decide +kernel
theorem dX8_gauged_185 : decode cX8_gauged 185 = .ok (.iconst 2, 1) := by decide +kernel
theorem dX8_gauged_186 : decode cX8_gauged 186 = .ok (.iload 14, 2) := by decide +kernel
theorem dX8_gauged_188 : decode cX8_gauged 188 = .ok (.imul, 1) := by decide +kernel
theorem dX8_gauged_189 : decode cX8_gauged 189 = .ok (.iadd, 1) := by decide +kernel
theorem dX8_gauged_190 : decode cX8_gauged 190 = .ok (.iconst 1, 1) := by decide +kernel
theorem dX8_gauged_191 : decode cX8_gauged 191 = .ok (.iadd, 1) := by decide +kernel
theorem dX8_gauged_192 : decode cX8_gauged 192 = .ok (.iaload, 1) := by decide +kernel
theorem dX8_gauged_193 : decode cX8_gauged 193 = .ok (.if_icmp .ne 7, 3) := by decide +kernel
theorem dX8_gauged_196 : decode cX8_gauged 196 = .ok (.iconst 1, 1) := by decide +kernel
theorem dX8_gauged_197 : decode cX8_gauged 197 = .ok (.goto 4, 3) := by decide +kernel
theorem dX8_gauged_200 : decode cX8_gauged 200 = .ok (.iconst 0, 1) := by decide +kernel
theorem dX8_gauged_201 : decode cX8_gauged 201 = .ok (.istore 13, 2) := by decide +kernel
theorem dX8_gauged_203 : decode cX8_gauged 203 = .ok (.iinc 14 1, 3) := by decide +kernel
theorem dX8_gauged_206 : decode cX8_gauged 206 = .ok (.goto (-55), 3) := by decide +kernel
theorem dX8_gauged_209 : decode cX8_gauged 209 = .ok (.iload 9, 2) := by decide +kernel
theorem dX8_gauged_211 : decode cX8_gauged 211 = .ok (.iload 13, 2) := by decide +kernel
theorem dX8_gauged_213 : decode cX8_gauged 213 = .ok (.ifCond .eq 7, 3) := by decide +kernel
theorem dX8_gauged_216 : decode cX8_gauged 216 = .ok (.iconst 1, 1) := by decide +kernel
theorem dX8_gauged_217 : decode cX8_gauged 217 = .ok (.goto 4, 3) := by decide +kernel
theorem dX8_gauged_220 : decode cX8_gauged 220 = .ok (.iconst 0, 1) := by decide +kernel
theorem dX8_gauged_221 : decode cX8_gauged 221 = .ok (.iadd, 1) := by decide +kernel
theorem dX8_gauged_222 : decode cX8_gauged 222 = .ok (.istore 9, 2) := by decide +kernel
theorem dX8_gauged_224 : decode cX8_gauged 224 = .ok (.iload 13, 2) := by decide +kernel
theorem dX8_gauged_226 : decode cX8_gauged 226 = .ok (.ifCond .eq 13, 3) := by decide +kernel
theorem dX8_gauged_229 : decode cX8_gauged 229 = .ok (.iload 10, 2) := by decide +kernel
theorem dX8_gauged_231 : decode cX8_gauged 231 = .ok (.ifCond .ge 8, 3) := by decide +kernel
theorem dX8_gauged_234 : decode cX8_gauged 234 = .ok (.iload 12, 2) := by decide +kernel
theorem dX8_gauged_236 : decode cX8_gauged 236 = .ok (.goto 5, 3) := by decide +kernel
theorem dX8_gauged_239 : decode cX8_gauged 239 = .ok (.iload 10, 2) := by decide +kernel
theorem dX8_gauged_241 : decode cX8_gauged 241 = .ok (.istore 10, 2) := by decide +kernel
theorem dX8_gauged_243 : decode cX8_gauged 243 = .ok (.iload 13, 2) := by decide +kernel
theorem dX8_gauged_245 : decode cX8_gauged 245 = .ok (.ifCond .eq 8, 3) := by decide +kernel
theorem dX8_gauged_248 : decode cX8_gauged 248 = .ok (.iload 12, 2) := by decide +kernel
theorem dX8_gauged_250 : decode cX8_gauged 250 = .ok (.goto 5, 3) := by decide +kernel
theorem dX8_gauged_253 : decode cX8_gauged 253 = .ok (.iload 11, 2) := by decide +kernel
theorem dX8_gauged_255 : decode cX8_gauged 255 = .ok (.istore 11, 2) := by decide +kernel
theorem dX8_gauged_257 : decode cX8_gauged 257 = .ok (.iinc 12 1, 3) := by decide +kernel
theorem dX8_gauged_260 : decode cX8_gauged 260 = .ok (.goto (-130), 3) := by decide +kernel
theorem dX8_gauged_263 : decode cX8_gauged 263 = .ok (.aload_n 0, 1) := by decide +kernel
theorem dX8_gauged_264 : decode cX8_gauged 264 = .ok (.getfield 16, 3) := by decide +kernel
theorem dX8_gauged_267 : decode cX8_gauged 267 = .ok (.iconst 0, 1) := by decide +kernel
theorem dX8_gauged_268 : decode cX8_gauged 268 = .ok (.iload 8, 2) := by decide +kernel
theorem dX8_gauged_270 : decode cX8_gauged 270 = .ok (.iastore, 1) := by decide +kernel
theorem dX8_gauged_271 : decode cX8_gauged 271 = .ok (.iload 5, 2) := by decide +kernel
theorem dX8_gauged_273 : decode cX8_gauged 273 = .ok (.ifCond .ne 8, 3) := by decide +kernel
theorem dX8_gauged_276 : decode cX8_gauged 276 = .ok (.iload 9, 2) := by decide +kernel
theorem dX8_gauged_278 : decode cX8_gauged 278 = .ok (.goto 16, 3) := by decide +kernel
theorem dX8_gauged_281 : decode cX8_gauged 281 = .ok (.iload 5, 2) := by decide +kernel
theorem dX8_gauged_283 : decode cX8_gauged 283 = .ok (.iconst 1, 1) := by decide +kernel
theorem dX8_gauged_284 : decode cX8_gauged 284 = .ok (.if_icmp .ne 8, 3) := by decide +kernel
theorem dX8_gauged_287 : decode cX8_gauged 287 = .ok (.iload 10, 2) := by decide +kernel
theorem dX8_gauged_289 : decode cX8_gauged 289 = .ok (.goto 5, 3) := by decide +kernel
theorem dX8_gauged_292 : decode cX8_gauged 292 = .ok (.iload 11, 2) := by decide +kernel
theorem dX8_gauged_294 : decode cX8_gauged 294 = .ok (.ireturn, 1) := by decide +kernel
