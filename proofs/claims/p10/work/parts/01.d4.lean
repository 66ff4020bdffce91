theorem d_Model_rounded_136 : decode b_Model_rounded 136 = .ok (.iload_n 3, 1) := by decide +kernel
theorem d_Model_rounded_137 : decode b_Model_rounded 137 = .ok (.lload 5, 2) := by decide +kernel
theorem d_Model_rounded_139 : decode b_Model_rounded 139 = .ok (.aload_n 0, 1) := by decide +kernel
theorem d_Model_rounded_140 : decode b_Model_rounded 140 = .ok (.invokevirtual 74, 3) := by decide +kernel
theorem d_Model_rounded_143 : decode b_Model_rounded 143 = .ok (.iload_n 1, 1) := by decide +kernel
theorem d_Model_rounded_144 : decode b_Model_rounded 144 = .ok (.iload_n 2, 1) := by decide +kernel
theorem d_Model_rounded_145 : decode b_Model_rounded 145 = .ok (.invokevirtual 77, 3) := by decide +kernel
theorem d_Model_rounded_148 : decode b_Model_rounded 148 = .ok (.lreturn, 1) := by decide +kernel
theorem d_Model_packed_0 : decode b_Model_packed 0 = .ok (.aload_n 0, 1) := by decide +kernel
theorem d_Model_packed_1 : decode b_Model_packed 1 = .ok (.iload 4, 2) := by decide +kernel
theorem d_Model_packed_3 : decode b_Model_packed 3 = .ok (.ifCond .le 7, 3) := by decide +kernel
theorem d_Model_packed_6 : decode b_Model_packed 6 = .ok (.iconst 1, 1) := by decide +kernel
theorem d_Model_packed_7 : decode b_Model_packed 7 = .ok (.goto 4, 3) := by decide +kernel
theorem d_Model_packed_10 : decode b_Model_packed 10 = .ok (.iconst 0, 1) := by decide +kernel
theorem d_Model_packed_11 : decode b_Model_packed 11 = .ok (.putfield 81, 3) := by decide +kernel
theorem d_Model_packed_14 : decode b_Model_packed 14 = .ok (.aload_n 0, 1) := by decide +kernel
theorem d_Model_packed_15 : decode b_Model_packed 15 = .ok (.aload_n 0, 1) := by decide +kernel
theorem d_Model_packed_16 : decode b_Model_packed 16 = .ok (.getfield 68, 3) := by decide +kernel
theorem d_Model_packed_19 : decode b_Model_packed 19 = .ok (.ifCond .eq 14, 3) := by decide +kernel
theorem d_Model_packed_22 : decode b_Model_packed 22 = .ok (.aload_n 0, 1) := by decide +kernel
theorem d_Model_packed_23 : decode b_Model_packed 23 = .ok (.getfield 81, 3) := by decide +kernel
theorem d_Model_packed_26 : decode b_Model_packed 26 = .ok (.ifCond .eq 7, 3) := by decide +kernel
theorem d_Model_packed_29 : decode b_Model_packed 29 = .ok (.iconst 1, 1) := by decide +kernel
theorem d_Model_packed_30 : decode b_Model_packed 30 = .ok (.goto 4, 3) := by decide +kernel
theorem d_Model_packed_33 : decode b_Model_packed 33 = .ok (.iconst 0, 1) := by decide +kernel
theorem d_Model_packed_34 : decode b_Model_packed 34 = .ok (.putfield 68, 3) := by decide +kernel
theorem d_Model_packed_37 : decode b_Model_packed 37 = .ok (.iload_n 1, 1) := by decide +kernel
theorem d_Model_packed_38 : decode b_Model_packed 38 = .ok (.istore 7, 2) := by decide +kernel
theorem d_Model_packed_40 : decode b_Model_packed 40 = .ok (.aload_n 0, 1) := by decide +kernel
theorem d_Model_packed_41 : decode b_Model_packed 41 = .ok (.iload 5, 2) := by decide +kernel
theorem d_Model_packed_43 : decode b_Model_packed 43 = .ok (.iload 6, 2) := by decide +kernel
theorem d_Model_packed_45 : decode b_Model_packed 45 = .ok (.lload_n 2, 1) := by decide +kernel
theorem d_Model_packed_46 : decode b_Model_packed 46 = .ok (.iload 4, 2) := by decide +kernel
theorem d_Model_packed_48 : decode b_Model_packed 48 = .ok (.invokevirtual 84, 3) := by decide +kernel
theorem d_Model_packed_51 : decode b_Model_packed 51 = .ok (.ifCond .eq 9, 3) := by decide +kernel
theorem d_Model_packed_54 : decode b_Model_packed 54 = .ok (.lload_n 2, 1) := by decide +kernel
theorem d_Model_packed_55 : decode b_Model_packed 55 = .ok (.lconst 1, 1) := by decide +kernel
theorem d_Model_packed_56 : decode b_Model_packed 56 = .ok (.ladd, 1) := by decide +kernel
theorem d_Model_packed_57 : decode b_Model_packed 57 = .ok (.goto 4, 3) := by decide +kernel
theorem d_Model_packed_60 : decode b_Model_packed 60 = .ok (.lload_n 2, 1) := by decide +kernel
theorem d_Model_packed_61 : decode b_Model_packed 61 = .ok (.lstore 8, 2) := by decide +kernel
theorem d_Model_packed_63 : decode b_Model_packed 63 = .ok (.lconst 1, 1) := by decide +kernel
theorem d_Model_packed_64 : decode b_Model_packed 64 = .ok (.aload_n 0, 1) := by decide +kernel
theorem d_Model_packed_65 : decode b_Model_packed 65 = .ok (.getfield 13, 3) := by decide +kernel
theorem d_Model_packed_68 : decode b_Model_packed 68 = .ok (.lshl, 1) := by decide +kernel
theorem d_Model_packed_69 : decode b_Model_packed 69 = .ok (.lstore 10, 2) := by decide +kernel
theorem d_Model_packed_71 : decode b_Model_packed 71 = .ok (.lload 8, 2) := by decide +kernel
theorem d_Model_packed_73 : decode b_Model_packed 73 = .ok (.ldc2_w 72, 3) := by decide +kernel
theorem d_Model_packed_76 : decode b_Model_packed 76 = .ok (.lload 10, 2) := by decide +kernel
theorem d_Model_packed_78 : decode b_Model_packed 78 = .ok (.lmul, 1) := by decide +kernel
theorem d_Model_packed_79 : decode b_Model_packed 79 = .ok (.lcmp, 1) := by decide +kernel
theorem d_Model_packed_80 : decode b_Model_packed 80 = .ok (.ifCond .ne 10, 3) := by decide +kernel
theorem d_Model_packed_83 : decode b_Model_packed 83 = .ok (.lload 10, 2) := by decide +kernel
theorem d_Model_packed_85 : decode b_Model_packed 85 = .ok (.lstore 8, 2) := by decide +kernel
theorem d_Model_packed_87 : decode b_Model_packed 87 = .ok (.iinc 7 1, 3) := by decide +kernel
theorem d_Model_packed_90 : decode b_Model_packed 90 = .ok (.lload 8, 2) := by decide +kernel
theorem d_Model_packed_92 : decode b_Model_packed 92 = .ok (.lload 10, 2) := by decide +kernel
theorem d_Model_packed_94 : decode b_Model_packed 94 = .ok (.lcmp, 1) := by decide +kernel
theorem d_Model_packed_95 : decode b_Model_packed 95 = .ok (.ifCond .ge 11, 3) := by decide +kernel
theorem d_Model_packed_98 : decode b_Model_packed 98 = .ok (.aload_n 0, 1) := by decide +kernel
theorem d_Model_packed_99 : decode b_Model_packed 99 = .ok (.iconst 0, 1) := by decide +kernel
theorem d_Model_packed_100 : decode b_Model_packed 100 = .ok (.putfield 88, 3) := by decide +kernel
theorem d_Model_packed_103 : decode b_Model_packed 103 = .ok (.lload 8, 2) := by decide +kernel
theorem d_Model_packed_105 : decode b_Model_packed 105 = .ok (.lreturn, 1) := by decide +kernel
theorem d_Model_packed_106 : decode b_Model_packed 106 = .ok (.iload 7, 2) := by decide +kernel
theorem d_Model_packed_108 : decode b_Model_packed 108 = .ok (.aload_n 0, 1) := by decide +kernel
theorem d_Model_packed_109 : decode b_Model_packed 109 = .ok (.invokevirtual 55, 3) := by decide +kernel
theorem d_Model_packed_112 : decode b_Model_packed 112 = .ok (.iadd, 1) := by decide +kernel
theorem d_Model_packed_113 : decode b_Model_packed 113 = .ok (.istore 12, 2) := by decide +kernel
theorem d_Model_packed_115 : decode b_Model_packed 115 = .ok (.aload_n 0, 1) := by decide +kernel
theorem d_Model_packed_116 : decode b_Model_packed 116 = .ok (.iload 12, 2) := by decide +kernel
theorem d_Model_packed_118 : decode b_Model_packed 118 = .ok (.iconst 1, 1) := by decide +kernel
theorem d_Model_packed_119 : decode b_Model_packed 119 = .ok (.aload_n 0, 1) := by decide +kernel
theorem d_Model_packed_120 : decode b_Model_packed 120 = .ok (.getfield 7, 3) := by decide +kernel
theorem d_Model_packed_123 : decode b_Model_packed 123 = .ok (.ishl, 1) := by decide +kernel
theorem d_Model_packed_124 : decode b_Model_packed 124 = .ok (.iconst 1, 1) := by decide +kernel
theorem d_Model_packed_125 : decode b_Model_packed 125 = .ok (.isub, 1) := by decide +kernel
theorem d_Model_packed_126 : decode b_Model_packed 126 = .ok (.if_icmp .lt 7, 3) := by decide +kernel
theorem d_Model_packed_129 : decode b_Model_packed 129 = .ok (.iconst 1, 1) := by decide +kernel
theorem d_Model_packed_130 : decode b_Model_packed 130 = .ok (.goto 4, 3) := by decide +kernel
theorem d_Model_packed_133 : decode b_Model_packed 133 = .ok (.iconst 0, 1) := by decide +kernel
theorem d_Model_packed_134 : decode b_Model_packed 134 = .ok (.putfield 88, 3) := by decide +kernel
theorem d_Model_packed_137 : decode b_Model_packed 137 = .ok (.aload_n 0, 1) := by decide +kernel
theorem d_Model_packed_138 : decode b_Model_packed 138 = .ok (.getfield 88, 3) := by decide +kernel
theorem d_Model_packed_141 : decode b_Model_packed 141 = .ok (.ifCond .ne 18, 3) := by decide +kernel
theorem d_Model_packed_144 : decode b_Model_packed 144 = .ok (.iload 12, 2) := by decide +kernel
theorem d_Model_packed_146 : decode b_Model_packed 146 = .ok (.i2l, 1) := by decide +kernel
theorem d_Model_packed_147 : decode b_Model_packed 147 = .ok (.aload_n 0, 1) := by decide +kernel
theorem d_Model_packed_148 : decode b_Model_packed 148 = .ok (.getfield 13, 3) := by decide +kernel
theorem d_Model_packed_151 : decode b_Model_packed 151 = .ok (.lshl, 1) := by decide +kernel
theorem d_Model_packed_152 : decode b_Model_packed 152 = .ok (.lload 8, 2) := by decide +kernel
theorem d_Model_packed_154 : decode b_Model_packed 154 = .ok (.ladd, 1) := by decide +kernel
theorem d_Model_packed_155 : decode b_Model_packed 155 = .ok (.lload 10, 2) := by decide +kernel
theorem d_Model_packed_157 : decode b_Model_packed 157 = .ok (.lsub, 1) := by decide +kernel
theorem d_Model_packed_158 : decode b_Model_packed 158 = .ok (.lreturn, 1) := by decide +kernel
theorem d_Model_packed_159 : decode b_Model_packed 159 = .ok (.aload_n 0, 1) := by decide +kernel
theorem d_Model_packed_160 : decode b_Model_packed 160 = .ok (.iconst 1, 1) := by decide +kernel
theorem d_Model_packed_161 : decode b_Model_packed 161 = .ok (.putfield 81, 3) := by decide +kernel
theorem d_Model_packed_164 : decode b_Model_packed 164 = .ok (.iload 6, 2) := by decide +kernel
theorem d_Model_packed_166 : decode b_Model_packed 166 = .ok (.ifCond .eq 31, 3) := by decide +kernel
theorem d_Model_packed_169 : decode b_Model_packed 169 = .ok (.iload 6, 2) := by decide +kernel
theorem d_Model_packed_171 : decode b_Model_packed 171 = .ok (.iconst 4, 1) := by decide +kernel
theorem d_Model_packed_172 : decode b_Model_packed 172 = .ok (.if_icmp .eq 25, 3) := by decide +kernel
theorem d_Model_packed_175 : decode b_Model_packed 175 = .ok (.iload 6, 2) := by decide +kernel
theorem d_Model_packed_177 : decode b_Model_packed 177 = .ok (.iconst 2, 1) := by decide +kernel
theorem d_Model_packed_178 : decode b_Model_packed 178 = .ok (.if_icmp .ne 8, 3) := by decide +kernel
theorem d_Model_packed_181 : decode b_Model_packed 181 = .ok (.iload 5, 2) := by decide +kernel
theorem d_Model_packed_183 : decode b_Model_packed 183 = .ok (.ifCond .eq 14, 3) := by decide +kernel
theorem d_Model_packed_186 : decode b_Model_packed 186 = .ok (.iload 6, 2) := by decide +kernel
theorem d_Model_packed_188 : decode b_Model_packed 188 = .ok (.iconst 3, 1) := by decide +kernel
theorem d_Model_packed_189 : decode b_Model_packed 189 = .ok (.if_icmp .ne 12, 3) := by decide +kernel
theorem d_Model_packed_192 : decode b_Model_packed 192 = .ok (.iload 5, 2) := by decide +kernel
theorem d_Model_packed_194 : decode b_Model_packed 194 = .ok (.ifCond .eq 7, 3) := by decide +kernel
theorem d_Model_packed_197 : decode b_Model_packed 197 = .ok (.iconst 1, 1) := by decide +kernel
theorem d_Model_packed_198 : decode b_Model_packed 198 = .ok (.goto 4, 3) := by decide +kernel
theorem d_Model_packed_201 : decode b_Model_packed 201 = .ok (.iconst 0, 1) := by decide +kernel
theorem d_Model_packed_202 : decode b_Model_packed 202 = .ok (.istore 13, 2) := by decide +kernel
theorem d_Model_packed_204 : decode b_Model_packed 204 = .ok (.iload 13, 2) := by decide +kernel
theorem d_Model_packed_206 : decode b_Model_packed 206 = .ok (.ifCond .eq 10, 3) := by decide +kernel
theorem d_Model_packed_209 : decode b_Model_packed 209 = .ok (.aload_n 0, 1) := by decide +kernel
theorem d_Model_packed_210 : decode b_Model_packed 210 = .ok (.invokevirtual 91, 3) := by decide +kernel
theorem d_Model_packed_213 : decode b_Model_packed 213 = .ok (.goto 9, 3) := by decide +kernel
theorem d_Model_packed_216 : decode b_Model_packed 216 = .ok (.aload_n 0, 1) := by decide +kernel
theorem d_Model_packed_217 : decode b_Model_packed 217 = .ok (.invokevirtual 91, 3) := by decide +kernel
theorem d_Model_packed_220 : decode b_Model_packed 220 = .ok (.lconst 1, 1) := by decide +kernel
theorem d_Model_packed_221 : decode b_Model_packed 221 = .ok (.lsub, 1) := by decide +kernel
theorem d_Model_packed_222 : decode b_Model_packed 222 = .ok (.lreturn, 1) := by decide +kernel
theorem d_Model_see_0 : decode b_Model_see 0 = .ok (.iload_n 1, 1) := by decide +kernel
theorem d_Model_see_1 : decode b_Model_see 1 = .ok (.aload_n 0, 1) := by decide +kernel
theorem d_Model_see_2 : decode b_Model_see 2 = .ok (.getfield 47, 3) := by decide +kernel
theorem d_Model_see_5 : decode b_Model_see 5 = .ok (.if_icmp .ge 12, 3) := by decide +kernel
theorem d_Model_see_8 : decode b_Model_see 8 = .ok (.aload_n 0, 1) := by decide +kernel
theorem d_Model_see_9 : decode b_Model_see 9 = .ok (.getfield 16, 3) := by decide +kernel
theorem d_Model_see_12 : decode b_Model_see 12 = .ok (.iload_n 1, 1) := by decide +kernel
theorem d_Model_see_13 : decode b_Model_see 13 = .ok (.iaload, 1) := by decide +kernel
theorem d_Model_see_14 : decode b_Model_see 14 = .ok (.goto 4, 3) := by decide +kernel
theorem d_Model_see_17 : decode b_Model_see 17 = .ok (.iconst 0, 1) := by decide +kernel
theorem d_Model_see_18 : decode b_Model_see 18 = .ok (.ireturn, 1) := by decide +kernel
theorem d_Model_isDigit_0 : decode b_Model_isDigit 0 = .ok (.iload_n 0, 1) := by decide +kernel
theorem d_Model_isDigit_1 : decode b_Model_isDigit 1 = .ok (.bipush 48, 2) := by decide +kernel
theorem d_Model_isDigit_3 : decode b_Model_isDigit 3 = .ok (.if_icmp .lt 13, 3) := by decide +kernel
theorem d_Model_isDigit_6 : decode b_Model_isDigit 6 = .ok (.iload_n 0, 1) := by decide +kernel
theorem d_Model_isDigit_7 : decode b_Model_isDigit 7 = .ok (.bipush 57, 2) := by decide +kernel
theorem d_Model_isDigit_9 : decode b_Model_isDigit 9 = .ok (.if_icmp .gt 7, 3) := by decide +kernel
theorem d_Model_isDigit_12 : decode b_Model_isDigit 12 = .ok (.iconst 1, 1) := by decide +kernel
theorem d_Model_isDigit_13 : decode b_Model_isDigit 13 = .ok (.goto 4, 3) := by decide +kernel
theorem d_Model_isDigit_16 : decode b_Model_isDigit 16 = .ok (.iconst 0, 1) := by decide +kernel
theorem d_Model_isDigit_17 : decode b_Model_isDigit 17 = .ok (.ireturn, 1) := by decide +kernel
theorem d_Model_run_0 : decode b_Model_run 0 = .ok (.iconst 0, 1) := by decide +kernel
theorem d_Model_run_1 : decode b_Model_run 1 = .ok (.istore_n 1, 1) := by decide +kernel
theorem d_Model_run_2 : decode b_Model_run 2 = .ok (.aload_n 0, 1) := by decide +kernel
theorem d_Model_run_3 : decode b_Model_run 3 = .ok (.aload_n 0, 1) := by decide +kernel
theorem d_Model_run_4 : decode b_Model_run 4 = .ok (.getfield 95, 3) := by decide +kernel
theorem d_Model_run_7 : decode b_Model_run 7 = .ok (.invokevirtual 98, 3) := by decide +kernel
theorem d_Model_run_10 : decode b_Model_run 10 = .ok (.invokestatic 102, 3) := by decide +kernel
theorem d_Model_run_13 : decode b_Model_run 13 = .ok (.ifCond .eq 58, 3) := by decide +kernel
theorem d_Model_run_16 : decode b_Model_run 16 = .ok (.aload_n 0, 1) := by decide +kernel
theorem d_Model_run_17 : decode b_Model_run 17 = .ok (.getfield 106, 3) := by decide +kernel
theorem d_Model_run_20 : decode b_Model_run 20 = .ok (.bipush 40, 2) := by decide +kernel
theorem d_Model_run_22 : decode b_Model_run 22 = .ok (.if_icmp .ge 23, 3) := by decide +kernel
theorem d_Model_run_25 : decode b_Model_run 25 = .ok (.aload_n 0, 1) := by decide +kernel
theorem d_Model_run_26 : decode b_Model_run 26 = .ok (.getfield 35, 3) := by decide +kernel
theorem d_Model_run_29 : decode b_Model_run 29 = .ok (.aload_n 0, 1) := by decide +kernel
theorem d_Model_run_30 : decode b_Model_run 30 = .ok (.getfield 106, 3) := by decide +kernel
theorem d_Model_run_33 : decode b_Model_run 33 = .ok (.aload_n 0, 1) := by decide +kernel
theorem d_Model_run_34 : decode b_Model_run 34 = .ok (.aload_n 0, 1) := by decide +kernel
theorem d_Model_run_35 : decode b_Model_run 35 = .ok (.getfield 95, 3) := by decide +kernel
theorem d_Model_run_38 : decode b_Model_run 38 = .ok (.invokevirtual 98, 3) := by decide +kernel
theorem d_Model_run_41 : decode b_Model_run 41 = .ok (.bipush 48, 2) := by decide +kernel
theorem d_Model_run_43 : decode b_Model_run 43 = .ok (.isub, 1) := by decide +kernel
theorem d_Model_run_44 : decode b_Model_run 44 = .ok (.iastore, 1) := by decide +kernel
theorem d_Model_run_45 : decode b_Model_run 45 = .ok (.aload_n 0, 1) := by decide +kernel
theorem d_Model_run_46 : decode b_Model_run 46 = .ok (.dup, 1) := by decide +kernel
theorem d_Model_run_47 : decode b_Model_run 47 = .ok (.getfield 106, 3) := by decide +kernel
theorem d_Model_run_50 : decode b_Model_run 50 = .ok (.iconst 1, 1) := by decide +kernel
theorem d_Model_run_51 : decode b_Model_run 51 = .ok (.iadd, 1) := by decide +kernel
theorem d_Model_run_52 : decode b_Model_run 52 = .ok (.putfield 106, 3) := by decide +kernel
theorem d_Model_run_55 : decode b_Model_run 55 = .ok (.iinc 1 1, 3) := by decide +kernel
theorem d_Model_run_58 : decode b_Model_run 58 = .ok (.aload_n 0, 1) := by decide +kernel
theorem d_Model_run_59 : decode b_Model_run 59 = .ok (.dup, 1) := by decide +kernel
theorem d_Model_run_60 : decode b_Model_run 60 = .ok (.getfield 95, 3) := by decide +kernel
theorem d_Model_run_63 : decode b_Model_run 63 = .ok (.iconst 1, 1) := by decide +kernel
theorem d_Model_run_64 : decode b_Model_run 64 = .ok (.iadd, 1) := by decide +kernel
theorem d_Model_run_65 : decode b_Model_run 65 = .ok (.putfield 95, 3) := by decide +kernel
theorem d_Model_run_68 : decode b_Model_run 68 = .ok (.goto (-66), 3) := by decide +kernel
theorem d_Model_run_71 : decode b_Model_run 71 = .ok (.iload_n 1, 1) := by decide +kernel
theorem d_Model_run_72 : decode b_Model_run 72 = .ok (.ireturn, 1) := by decide +kernel
theorem d_Model_isDecimal_0 : decode b_Model_isDecimal 0 = .ok (.aload_n 0, 1) := by decide +kernel
theorem d_Model_isDecimal_1 : decode b_Model_isDecimal 1 = .ok (.iconst 0, 1) := by decide +kernel
theorem d_Model_isDecimal_2 : decode b_Model_isDecimal 2 = .ok (.putfield 95, 3) := by decide +kernel
theorem d_Model_isDecimal_5 : decode b_Model_isDecimal 5 = .ok (.aload_n 0, 1) := by decide +kernel
theorem d_Model_isDecimal_6 : decode b_Model_isDecimal 6 = .ok (.iconst 0, 1) := by decide +kernel
theorem d_Model_isDecimal_7 : decode b_Model_isDecimal 7 = .ok (.putfield 106, 3) := by decide +kernel
theorem d_Model_isDecimal_10 : decode b_Model_isDecimal 10 = .ok (.aload_n 0, 1) := by decide +kernel
theorem d_Model_isDecimal_11 : decode b_Model_isDecimal 11 = .ok (.iconst 0, 1) := by decide +kernel
theorem d_Model_isDecimal_12 : decode b_Model_isDecimal 12 = .ok (.putfield 109, 3) := by decide +kernel
theorem d_Model_isDecimal_15 : decode b_Model_isDecimal 15 = .ok (.aload_n 0, 1) := by decide +kernel
theorem d_Model_isDecimal_16 : decode b_Model_isDecimal 16 = .ok (.aload_n 0, 1) := by decide +kernel
theorem d_Model_isDecimal_17 : decode b_Model_isDecimal 17 = .ok (.iconst 0, 1) := by decide +kernel
theorem d_Model_isDecimal_18 : decode b_Model_isDecimal 18 = .ok (.invokevirtual 98, 3) := by decide +kernel
theorem d_Model_isDecimal_21 : decode b_Model_isDecimal 21 = .ok (.bipush 45, 2) := by decide +kernel
theorem d_Model_isDecimal_23 : decode b_Model_isDecimal 23 = .ok (.if_icmp .ne 7, 3) := by decide +kernel
theorem d_Model_isDecimal_26 : decode b_Model_isDecimal 26 = .ok (.iconst 1, 1) := by decide +kernel
theorem d_Model_isDecimal_27 : decode b_Model_isDecimal 27 = .ok (.goto 4, 3) := by decide +kernel
theorem d_Model_isDecimal_30 : decode b_Model_isDecimal 30 = .ok (.iconst 0, 1) := by decide +kernel
theorem d_Model_isDecimal_31 : decode b_Model_isDecimal 31 = .ok (.putfield 112, 3) := by decide +kernel
theorem d_Model_isDecimal_34 : decode b_Model_isDecimal 34 = .ok (.aload_n 0, 1) := by decide +kernel
theorem d_Model_isDecimal_35 : decode b_Model_isDecimal 35 = .ok (.getfield 112, 3) := by decide +kernel
theorem d_Model_isDecimal_38 : decode b_Model_isDecimal 38 = .ok (.ifCond .eq 13, 3) := by decide +kernel
theorem d_Model_isDecimal_41 : decode b_Model_isDecimal 41 = .ok (.aload_n 0, 1) := by decide +kernel
theorem d_Model_isDecimal_42 : decode b_Model_isDecimal 42 = .ok (.dup, 1) := by decide +kernel
theorem d_Model_isDecimal_43 : decode b_Model_isDecimal 43 = .ok (.getfield 95, 3) := by decide +kernel
theorem d_Model_isDecimal_46 : decode b_Model_isDecimal 46 = .ok (.iconst 1, 1) := by decide +kernel
theorem d_Model_isDecimal_47 : decode b_Model_isDecimal 47 = .ok (.iadd, 1) := by decide +kernel
theorem d_Model_isDecimal_48 : decode b_Model_isDecimal 48 = .ok (.putfield 95, 3) := by decide +kernel
theorem d_Model_isDecimal_51 : decode b_Model_isDecimal 51 = .ok (.aload_n 0, 1) := by decide +kernel
theorem d_Model_isDecimal_52 : decode b_Model_isDecimal 52 = .ok (.aload_n 0, 1) := by decide +kernel
theorem d_Model_isDecimal_53 : decode b_Model_isDecimal 53 = .ok (.invokevirtual 115, 3) := by decide +kernel
theorem d_Model_isDecimal_56 : decode b_Model_isDecimal 56 = .ok (.putfield 118, 3) := by decide +kernel
theorem d_Model_isDecimal_59 : decode b_Model_isDecimal 59 = .ok (.aload_n 0, 1) := by decide +kernel
theorem d_Model_isDecimal_60 : decode b_Model_isDecimal 60 = .ok (.getfield 118, 3) := by decide +kernel
theorem d_Model_isDecimal_63 : decode b_Model_isDecimal 63 = .ok (.ifCond .ne 5, 3) := by decide +kernel
theorem d_Model_isDecimal_66 : decode b_Model_isDecimal 66 = .ok (.iconst 0, 1) := by decide +kernel
theorem d_Model_isDecimal_67 : decode b_Model_isDecimal 67 = .ok (.ireturn, 1) := by decide +kernel
theorem d_Model_isDecimal_68 : decode b_Model_isDecimal 68 = .ok (.aload_n 0, 1) := by decide +kernel
theorem d_Model_isDecimal_69 : decode b_Model_isDecimal 69 = .ok (.aload_n 0, 1) := by decide +kernel
theorem d_Model_isDecimal_70 : decode b_Model_isDecimal 70 = .ok (.getfield 95, 3) := by decide +kernel
theorem d_Model_isDecimal_73 : decode b_Model_isDecimal 73 = .ok (.invokevirtual 98, 3) := by decide +kernel
theorem d_Model_isDecimal_76 : decode b_Model_isDecimal 76 = .ok (.bipush 46, 2) := by decide +kernel
theorem d_Model_isDecimal_78 : decode b_Model_isDecimal 78 = .ok (.if_icmp .ne 22, 3) := by decide +kernel
theorem d_Model_isDecimal_81 : decode b_Model_isDecimal 81 = .ok (.aload_n 0, 1) := by decide +kernel
theorem d_Model_isDecimal_82 : decode b_Model_isDecimal 82 = .ok (.dup, 1) := by decide +kernel
theorem d_Model_isDecimal_83 : decode b_Model_isDecimal 83 = .ok (.getfield 95, 3) := by decide +kernel
theorem d_Model_isDecimal_86 : decode b_Model_isDecimal 86 = .ok (.iconst 1, 1) := by decide +kernel
theorem d_Model_isDecimal_87 : decode b_Model_isDecimal 87 = .ok (.iadd, 1) := by decide +kernel
theorem d_Model_isDecimal_88 : decode b_Model_isDecimal 88 = .ok (.putfield 95, 3) := by decide +kernel
theorem d_Model_isDecimal_91 : decode b_Model_isDecimal 91 = .ok (.aload_n 0, 1) := by decide +kernel
theorem d_Model_isDecimal_92 : decode b_Model_isDecimal 92 = .ok (.invokevirtual 115, 3) := by decide +kernel
theorem d_Model_isDecimal_95 : decode b_Model_isDecimal 95 = .ok (.ifCond .ne 5, 3) := by decide +kernel
theorem d_Model_isDecimal_98 : decode b_Model_isDecimal 98 = .ok (.iconst 0, 1) := by decide +kernel
theorem d_Model_isDecimal_99 : decode b_Model_isDecimal 99 = .ok (.ireturn, 1) := by decide +kernel
theorem d_Model_isDecimal_100 : decode b_Model_isDecimal 100 = .ok (.aload_n 0, 1) := by decide +kernel
theorem d_Model_isDecimal_101 : decode b_Model_isDecimal 101 = .ok (.getfield 106, 3) := by decide +kernel
theorem d_Model_isDecimal_104 : decode b_Model_isDecimal 104 = .ok (.bipush 40, 2) := by decide +kernel
theorem d_Model_isDecimal_106 : decode b_Model_isDecimal 106 = .ok (.if_icmp .le 5, 3) := by decide +kernel
theorem d_Model_isDecimal_109 : decode b_Model_isDecimal 109 = .ok (.iconst 0, 1) := by decide +kernel
theorem d_Model_isDecimal_110 : decode b_Model_isDecimal 110 = .ok (.ireturn, 1) := by decide +kernel
theorem d_Model_isDecimal_111 : decode b_Model_isDecimal 111 = .ok (.aload_n 0, 1) := by decide +kernel
theorem d_Model_isDecimal_112 : decode b_Model_isDecimal 112 = .ok (.aload_n 0, 1) := by decide +kernel
theorem d_Model_isDecimal_113 : decode b_Model_isDecimal 113 = .ok (.getfield 95, 3) := by decide +kernel
theorem d_Model_isDecimal_116 : decode b_Model_isDecimal 116 = .ok (.invokevirtual 98, 3) := by decide +kernel
theorem d_Model_isDecimal_119 : decode b_Model_isDecimal 119 = .ok (.bipush 101, 2) := by decide +kernel
theorem d_Model_isDecimal_121 : decode b_Model_isDecimal 121 = .ok (.if_icmp .ne 138, 3) := by decide +kernel
theorem d_Model_isDecimal_124 : decode b_Model_isDecimal 124 = .ok (.aload_n 0, 1) := by decide +kernel
theorem d_Model_isDecimal_125 : decode b_Model_isDecimal 125 = .ok (.dup, 1) := by decide +kernel
theorem d_Model_isDecimal_126 : decode b_Model_isDecimal 126 = .ok (.getfield 95, 3) := by decide +kernel
theorem d_Model_isDecimal_129 : decode b_Model_isDecimal 129 = .ok (.iconst 1, 1) := by decide +kernel
theorem d_Model_isDecimal_130 : decode b_Model_isDecimal 130 = .ok (.iadd, 1) := by decide +kernel
theorem d_Model_isDecimal_131 : decode b_Model_isDecimal 131 = .ok (.putfield 95, 3) := by decide +kernel
theorem d_Model_isDecimal_134 : decode b_Model_isDecimal 134 = .ok (.aload_n 0, 1) := by decide +kernel
theorem d_Model_isDecimal_135 : decode b_Model_isDecimal 135 = .ok (.aload_n 0, 1) := by decide +kernel
theorem d_Model_isDecimal_136 : decode b_Model_isDecimal 136 = .ok (.getfield 95, 3) := by decide +kernel
theorem d_Model_isDecimal_139 : decode b_Model_isDecimal 139 = .ok (.invokevirtual 98, 3) := by decide +kernel
theorem d_Model_isDecimal_142 : decode b_Model_isDecimal 142 = .ok (.bipush 45, 2) := by decide +kernel
theorem d_Model_isDecimal_144 : decode b_Model_isDecimal 144 = .ok (.if_icmp .ne 7, 3) := by decide +kernel
theorem d_Model_isDecimal_147 : decode b_Model_isDecimal 147 = .ok (.iconst 1, 1) := by decide +kernel
theorem d_Model_isDecimal_148 : decode b_Model_isDecimal 148 = .ok (.goto 4, 3) := by decide +kernel
theorem d_Model_isDecimal_151 : decode b_Model_isDecimal 151 = .ok (.iconst 0, 1) := by decide +kernel
theorem d_Model_isDecimal_152 : decode b_Model_isDecimal 152 = .ok (.istore_n 1, 1) := by decide +kernel
theorem d_Model_isDecimal_153 : decode b_Model_isDecimal 153 = .ok (.iload_n 1, 1) := by decide +kernel
theorem d_Model_isDecimal_154 : decode b_Model_isDecimal 154 = .ok (.ifCond .ne 16, 3) := by decide +kernel
theorem d_Model_isDecimal_157 : decode b_Model_isDecimal 157 = .ok (.aload_n 0, 1) := by decide +kernel
theorem d_Model_isDecimal_158 : decode b_Model_isDecimal 158 = .ok (.aload_n 0, 1) := by decide +kernel
theorem d_Model_isDecimal_159 : decode b_Model_isDecimal 159 = .ok (.getfield 95, 3) := by decide +kernel
theorem d_Model_isDecimal_162 : decode b_Model_isDecimal 162 = .ok (.invokevirtual 98, 3) := by decide +kernel
theorem d_Model_isDecimal_165 : decode b_Model_isDecimal 165 = .ok (.bipush 43, 2) := by decide +kernel
theorem d_Model_isDecimal_167 : decode b_Model_isDecimal 167 = .ok (.if_icmp .ne 13, 3) := by decide +kernel
theorem d_Model_isDecimal_170 : decode b_Model_isDecimal 170 = .ok (.aload_n 0, 1) := by decide +kernel
theorem d_Model_isDecimal_171 : decode b_Model_isDecimal 171 = .ok (.dup, 1) := by decide +kernel
theorem d_Model_isDecimal_172 : decode b_Model_isDecimal 172 = .ok (.getfield 95, 3) := by decide +kernel
theorem d_Model_isDecimal_175 : decode b_Model_isDecimal 175 = .ok (.iconst 1, 1) := by decide +kernel
theorem d_Model_isDecimal_176 : decode b_Model_isDecimal 176 = .ok (.iadd, 1) := by decide +kernel
theorem d_Model_isDecimal_177 : decode b_Model_isDecimal 177 = .ok (.putfield 95, 3) := by decide +kernel
theorem d_Model_isDecimal_180 : decode b_Model_isDecimal 180 = .ok (.iconst 0, 1) := by decide +kernel
theorem d_Model_isDecimal_181 : decode b_Model_isDecimal 181 = .ok (.istore_n 2, 1) := by decide +kernel
theorem d_Model_isDecimal_182 : decode b_Model_isDecimal 182 = .ok (.iload_n 2, 1) := by decide +kernel
theorem d_Model_isDecimal_183 : decode b_Model_isDecimal 183 = .ok (.iconst 3, 1) := by decide +kernel
theorem d_Model_isDecimal_184 : decode b_Model_isDecimal 184 = .ok (.if_icmp .ge 56, 3) := by decide +kernel
theorem d_Model_isDecimal_187 : decode b_Model_isDecimal 187 = .ok (.aload_n 0, 1) := by decide +kernel
theorem d_Model_isDecimal_188 : decode b_Model_isDecimal 188 = .ok (.aload_n 0, 1) := by decide +kernel
theorem d_Model_isDecimal_189 : decode b_Model_isDecimal 189 = .ok (.getfield 95, 3) := by decide +kernel
theorem d_Model_isDecimal_192 : decode b_Model_isDecimal 192 = .ok (.invokevirtual 98, 3) := by decide +kernel
theorem d_Model_isDecimal_195 : decode b_Model_isDecimal 195 = .ok (.invokestatic 102, 3) := by decide +kernel
theorem d_Model_isDecimal_198 : decode b_Model_isDecimal 198 = .ok (.ifCond .eq 42, 3) := by decide +kernel
theorem d_Model_isDecimal_201 : decode b_Model_isDecimal 201 = .ok (.aload_n 0, 1) := by decide +kernel
theorem d_Model_isDecimal_202 : decode b_Model_isDecimal 202 = .ok (.bipush 10, 2) := by decide +kernel
theorem d_Model_isDecimal_204 : decode b_Model_isDecimal 204 = .ok (.aload_n 0, 1) := by decide +kernel
theorem d_Model_isDecimal_205 : decode b_Model_isDecimal 205 = .ok (.getfield 109, 3) := by decide +kernel
theorem d_Model_isDecimal_208 : decode b_Model_isDecimal 208 = .ok (.imul, 1) := by decide +kernel
theorem d_Model_isDecimal_209 : decode b_Model_isDecimal 209 = .ok (.aload_n 0, 1) := by decide +kernel
theorem d_Model_isDecimal_210 : decode b_Model_isDecimal 210 = .ok (.aload_n 0, 1) := by decide +kernel
theorem d_Model_isDecimal_211 : decode b_Model_isDecimal 211 = .ok (.getfield 95, 3) := by decide +kernel
theorem d_Model_isDecimal_214 : decode b_Model_isDecimal 214 = .ok (.invokevirtual 98, 3) := by decide +kernel
theorem d_Model_isDecimal_217 : decode b_Model_isDecimal 217 = .ok (.iadd, 1) := by decide +kernel
theorem d_Model_isDecimal_218 : decode b_Model_isDecimal 218 = .ok (.bipush 48, 2) := by decide +kernel
theorem d_Model_isDecimal_220 : decode b_Model_isDecimal 220 = .ok (.isub, 1) := by decide +kernel
theorem d_Model_isDecimal_221 : decode b_Model_isDecimal 221 = .ok (.putfield 109, 3) := by decide +kernel
theorem d_Model_isDecimal_224 : decode b_Model_isDecimal 224 = .ok (.aload_n 0, 1) := by decide +kernel
theorem d_Model_isDecimal_225 : decode b_Model_isDecimal 225 = .ok (.dup, 1) := by decide +kernel
theorem d_Model_isDecimal_226 : decode b_Model_isDecimal 226 = .ok (.getfield 95, 3) := by decide +kernel
theorem d_Model_isDecimal_229 : decode b_Model_isDecimal 229 = .ok (.iconst 1, 1) := by decide +kernel
theorem d_Model_isDecimal_230 : decode b_Model_isDecimal 230 = .ok (.iadd, 1) := by decide +kernel
theorem d_Model_isDecimal_231 : decode b_Model_isDecimal 231 = .ok (.putfield 95, 3) := by decide +kernel
theorem d_Model_isDecimal_234 : decode b_Model_isDecimal 234 = .ok (.iinc 2 1, 3) := by decide +kernel
theorem d_Model_isDecimal_237 : decode b_Model_isDecimal 237 = .ok (.goto (-55), 3) := by decide +kernel
theorem d_Model_isDecimal_240 : decode b_Model_isDecimal 240 = .ok (.iload_n 2, 1) := by decide +kernel
theorem d_Model_isDecimal_241 : decode b_Model_isDecimal 241 = .ok (.ifCond .ne 5, 3) := by decide +kernel
theorem d_Model_isDecimal_244 : decode b_Model_isDecimal 244 = .ok (.iconst 0, 1) := by decide +kernel
theorem d_Model_isDecimal_245 : decode b_Model_isDecimal 245 = .ok (.ireturn, 1) := by decide +kernel
theorem d_Model_isDecimal_246 : decode b_Model_isDecimal 246 = .ok (.iload_n 1, 1) := by decide +kernel
theorem d_Model_isDecimal_247 : decode b_Model_isDecimal 247 = .ok (.ifCond .eq 12, 3) := by decide +kernel
theorem d_Model_isDecimal_250 : decode b_Model_isDecimal 250 = .ok (.aload_n 0, 1) := by decide +kernel
theorem d_Model_isDecimal_251 : decode b_Model_isDecimal 251 = .ok (.aload_n 0, 1) := by decide +kernel
theorem d_Model_isDecimal_252 : decode b_Model_isDecimal 252 = .ok (.getfield 109, 3) := by decide +kernel
theorem d_Model_isDecimal_255 : decode b_Model_isDecimal 255 = .ok (.ineg, 1) := by decide +kernel
theorem d_Model_isDecimal_256 : decode b_Model_isDecimal 256 = .ok (.putfield 109, 3) := by decide +kernel
theorem d_Model_isDecimal_259 : decode b_Model_isDecimal 259 = .ok (.aload_n 0, 1) := by decide +kernel
theorem d_Model_isDecimal_260 : decode b_Model_isDecimal 260 = .ok (.getfield 95, 3) := by decide +kernel
theorem d_Model_isDecimal_263 : decode b_Model_isDecimal 263 = .ok (.aload_n 0, 1) := by decide +kernel
theorem d_Model_isDecimal_264 : decode b_Model_isDecimal 264 = .ok (.getfield 47, 3) := by decide +kernel
theorem d_Model_isDecimal_267 : decode b_Model_isDecimal 267 = .ok (.if_icmp .ne 7, 3) := by decide +kernel
theorem d_Model_isDecimal_270 : decode b_Model_isDecimal 270 = .ok (.iconst 1, 1) := by decide +kernel
theorem d_Model_isDecimal_271 : decode b_Model_isDecimal 271 = .ok (.goto 4, 3) := by decide +kernel
theorem d_Model_isDecimal_274 : decode b_Model_isDecimal 274 = .ok (.iconst 0, 1) := by decide +kernel
theorem d_Model_isDecimal_275 : decode b_Model_isDecimal 275 = .ok (.ireturn, 1) := by decide +kernel
theorem d_Model_valued_0 : decode b_Model_valued 0 = .ok (.iconst 0, 1) := by decide +kernel
theorem d_Model_valued_1 : decode b_Model_valued 1 = .ok (.istore_n 2, 1) := by decide +kernel
theorem d_Model_valued_2 : decode b_Model_valued 2 = .ok (.iload_n 2, 1) := by decide +kernel
theorem d_Model_valued_3 : decode b_Model_valued 3 = .ok (.aload_n 0, 1) := by decide +kernel
theorem d_Model_valued_4 : decode b_Model_valued 4 = .ok (.getfield 106, 3) := by decide +kernel
theorem d_Model_valued_7 : decode b_Model_valued 7 = .ok (.if_icmp .ge 18, 3) := by decide +kernel
theorem d_Model_valued_10 : decode b_Model_valued 10 = .ok (.aload_n 0, 1) := by decide +kernel
theorem d_Model_valued_11 : decode b_Model_valued 11 = .ok (.getfield 35, 3) := by decide +kernel
theorem d_Model_valued_14 : decode b_Model_valued 14 = .ok (.iload_n 2, 1) := by decide +kernel
theorem d_Model_valued_15 : decode b_Model_valued 15 = .ok (.iaload, 1) := by decide +kernel
theorem d_Model_valued_16 : decode b_Model_valued 16 = .ok (.ifCond .ne 9, 3) := by decide +kernel
theorem d_Model_valued_19 : decode b_Model_valued 19 = .ok (.iinc 2 1, 3) := by decide +kernel
theorem d_Model_valued_22 : decode b_Model_valued 22 = .ok (.goto (-20), 3) := by decide +kernel
theorem d_Model_valued_25 : decode b_Model_valued 25 = .ok (.aload_n 0, 1) := by decide +kernel
theorem d_Model_valued_26 : decode b_Model_valued 26 = .ok (.iconst 0, 1) := by decide +kernel
theorem d_Model_valued_27 : decode b_Model_valued 27 = .ok (.putfield 81, 3) := by decide +kernel
theorem d_Model_valued_30 : decode b_Model_valued 30 = .ok (.aload_n 0, 1) := by decide +kernel
theorem d_Model_valued_31 : decode b_Model_valued 31 = .ok (.iconst 0, 1) := by decide +kernel
theorem d_Model_valued_32 : decode b_Model_valued 32 = .ok (.putfield 88, 3) := by decide +kernel
theorem d_Model_valued_35 : decode b_Model_valued 35 = .ok (.aload_n 0, 1) := by decide +kernel
theorem d_Model_valued_36 : decode b_Model_valued 36 = .ok (.iconst 0, 1) := by decide +kernel
theorem d_Model_valued_37 : decode b_Model_valued 37 = .ok (.putfield 68, 3) := by decide +kernel
theorem d_Model_valued_40 : decode b_Model_valued 40 = .ok (.iload_n 2, 1) := by decide +kernel
theorem d_Model_valued_41 : decode b_Model_valued 41 = .ok (.aload_n 0, 1) := by decide +kernel
theorem d_Model_valued_42 : decode b_Model_valued 42 = .ok (.getfield 106, 3) := by decide +kernel
theorem d_Model_valued_45 : decode b_Model_valued 45 = .ok (.if_icmp .ne 5, 3) := by decide +kernel
theorem d_Model_valued_48 : decode b_Model_valued 48 = .ok (.lconst 0, 1) := by decide +kernel
theorem d_Model_valued_49 : decode b_Model_valued 49 = .ok (.lreturn, 1) := by decide +kernel
theorem d_Model_valued_50 : decode b_Model_valued 50 = .ok (.aload_n 0, 1) := by decide +kernel
theorem d_Model_valued_51 : decode b_Model_valued 51 = .ok (.getfield 118, 3) := by decide +kernel
theorem d_Model_valued_54 : decode b_Model_valued 54 = .ok (.iconst 1, 1) := by decide +kernel
theorem d_Model_valued_55 : decode b_Model_valued 55 = .ok (.isub, 1) := by decide +kernel
theorem d_Model_valued_56 : decode b_Model_valued 56 = .ok (.iload_n 2, 1) := by decide +kernel
theorem d_Model_valued_57 : decode b_Model_valued 57 = .ok (.isub, 1) := by decide +kernel
theorem d_Model_valued_58 : decode b_Model_valued 58 = .ok (.aload_n 0, 1) := by decide +kernel
theorem d_Model_valued_59 : decode b_Model_valued 59 = .ok (.getfield 109, 3) := by decide +kernel
theorem d_Model_valued_62 : decode b_Model_valued 62 = .ok (.iadd, 1) := by decide +kernel
theorem d_Model_valued_63 : decode b_Model_valued 63 = .ok (.istore_n 3, 1) := by decide +kernel
theorem d_Model_valued_64 : decode b_Model_valued 64 = .ok (.iload_n 3, 1) := by decide +kernel
theorem d_Model_valued_65 : decode b_Model_valued 65 = .ok (.bipush 45, 2) := by decide +kernel
theorem d_Model_valued_67 : decode b_Model_valued 67 = .ok (.if_icmp .le 23, 3) := by decide +kernel
theorem d_Model_valued_70 : decode b_Model_valued 70 = .ok (.aload_n 0, 1) := by decide +kernel
theorem d_Model_valued_71 : decode b_Model_valued 71 = .ok (.sipush 1000, 3) := by decide +kernel
theorem d_Model_valued_74 : decode b_Model_valued 74 = .ok (.lconst 1, 1) := by decide +kernel
theorem d_Model_valued_75 : decode b_Model_valued 75 = .ok (.aload_n 0, 1) := by decide +kernel
theorem d_Model_valued_76 : decode b_Model_valued 76 = .ok (.getfield 13, 3) := by decide +kernel
theorem d_Model_valued_79 : decode b_Model_valued 79 = .ok (.lshl, 1) := by decide +kernel
theorem d_Model_valued_80 : decode b_Model_valued 80 = .ok (.iconst 1, 1) := by decide +kernel
theorem d_Model_valued_81 : decode b_Model_valued 81 = .ok (.aload_n 0, 1) := by decide +kernel
theorem d_Model_valued_82 : decode b_Model_valued 82 = .ok (.getfield 112, 3) := by decide +kernel
theorem d_Model_valued_85 : decode b_Model_valued 85 = .ok (.iload_n 1, 1) := by decide +kernel
theorem d_Model_valued_86 : decode b_Model_valued 86 = .ok (.invokevirtual 77, 3) := by decide +kernel
theorem d_Model_valued_89 : decode b_Model_valued 89 = .ok (.lreturn, 1) := by decide +kernel
theorem d_Model_valued_90 : decode b_Model_valued 90 = .ok (.iload_n 3, 1) := by decide +kernel
theorem d_Model_valued_91 : decode b_Model_valued 91 = .ok (.bipush (-70), 2) := by decide +kernel
theorem d_Model_valued_93 : decode b_Model_valued 93 = .ok (.if_icmp .ge 26, 3) := by decide +kernel
theorem d_Model_valued_96 : decode b_Model_valued 96 = .ok (.aload_n 0, 1) := by decide +kernel
theorem d_Model_valued_97 : decode b_Model_valued 97 = .ok (.iconst 1, 1) := by decide +kernel
theorem d_Model_valued_98 : decode b_Model_valued 98 = .ok (.putfield 68, 3) := by decide +kernel
theorem d_Model_valued_101 : decode b_Model_valued 101 = .ok (.aload_n 0, 1) := by decide +kernel
theorem d_Model_valued_102 : decode b_Model_valued 102 = .ok (.iconst 1, 1) := by decide +kernel
theorem d_Model_valued_103 : decode b_Model_valued 103 = .ok (.aload_n 0, 1) := by decide +kernel
theorem d_Model_valued_104 : decode b_Model_valued 104 = .ok (.invokevirtual 55, 3) := by decide +kernel
theorem d_Model_valued_107 : decode b_Model_valued 107 = .ok (.isub, 1) := by decide +kernel
theorem d_Model_valued_108 : decode b_Model_valued 108 = .ok (.lconst 0, 1) := by decide +kernel
theorem d_Model_valued_109 : decode b_Model_valued 109 = .ok (.iconst 1, 1) := by decide +kernel
theorem d_Model_valued_110 : decode b_Model_valued 110 = .ok (.aload_n 0, 1) := by decide +kernel
theorem d_Model_valued_111 : decode b_Model_valued 111 = .ok (.getfield 112, 3) := by decide +kernel
theorem d_Model_valued_114 : decode b_Model_valued 114 = .ok (.iload_n 1, 1) := by decide +kernel
theorem d_Model_valued_115 : decode b_Model_valued 115 = .ok (.invokevirtual 77, 3) := by decide +kernel
theorem d_Model_valued_118 : decode b_Model_valued 118 = .ok (.lreturn, 1) := by decide +kernel
theorem d_Model_valued_119 : decode b_Model_valued 119 = .ok (.aload_n 0, 1) := by decide +kernel
theorem d_Model_valued_120 : decode b_Model_valued 120 = .ok (.invokevirtual 121, 3) := by decide +kernel
theorem d_Model_valued_123 : decode b_Model_valued 123 = .ok (.iload_n 2, 1) := by decide +kernel
theorem d_Model_valued_124 : decode b_Model_valued 124 = .ok (.istore 4, 2) := by decide +kernel
theorem d_Model_valued_126 : decode b_Model_valued 126 = .ok (.iload 4, 2) := by decide +kernel
theorem d_Model_valued_128 : decode b_Model_valued 128 = .ok (.aload_n 0, 1) := by decide +kernel
theorem d_Model_valued_129 : decode b_Model_valued 129 = .ok (.getfield 106, 3) := by decide +kernel
theorem d_Model_valued_132 : decode b_Model_valued 132 = .ok (.if_icmp .ge 29, 3) := by decide +kernel
theorem d_Model_valued_135 : decode b_Model_valued 135 = .ok (.aload_n 0, 1) := by decide +kernel
theorem d_Model_valued_136 : decode b_Model_valued 136 = .ok (.bipush 60, 2) := by decide +kernel
theorem d_Model_valued_138 : decode b_Model_valued 138 = .ok (.iload_n 3, 1) := by decide +kernel
theorem d_Model_valued_139 : decode b_Model_valued 139 = .ok (.isub, 1) := by decide +kernel
theorem d_Model_valued_140 : decode b_Model_valued 140 = .ok (.iload 4, 2) := by decide +kernel
theorem d_Model_valued_142 : decode b_Model_valued 142 = .ok (.iadd, 1) := by decide +kernel
theorem d_Model_valued_143 : decode b_Model_valued 143 = .ok (.iload_n 2, 1) := by decide +kernel
theorem d_Model_valued_144 : decode b_Model_valued 144 = .ok (.isub, 1) := by decide +kernel
theorem d_Model_valued_145 : decode b_Model_valued 145 = .ok (.aload_n 0, 1) := by decide +kernel
theorem d_Model_valued_146 : decode b_Model_valued 146 = .ok (.getfield 35, 3) := by decide +kernel
theorem d_Model_valued_149 : decode b_Model_valued 149 = .ok (.iload 4, 2) := by decide +kernel
theorem d_Model_valued_151 : decode b_Model_valued 151 = .ok (.iaload, 1) := by decide +kernel
theorem d_Model_valued_152 : decode b_Model_valued 152 = .ok (.invokevirtual 124, 3) := by decide +kernel
theorem d_Model_valued_155 : decode b_Model_valued 155 = .ok (.iinc 4 1, 3) := by decide +kernel
theorem d_Model_valued_158 : decode b_Model_valued 158 = .ok (.goto (-32), 3) := by decide +kernel
theorem d_Model_valued_161 : decode b_Model_valued 161 = .ok (.aload_n 0, 1) := by decide +kernel
theorem d_Model_valued_162 : decode b_Model_valued 162 = .ok (.aload_n 0, 1) := by decide +kernel
theorem d_Model_valued_163 : decode b_Model_valued 163 = .ok (.getfield 112, 3) := by decide +kernel
theorem d_Model_valued_166 : decode b_Model_valued 166 = .ok (.iload_n 1, 1) := by decide +kernel
theorem d_Model_valued_167 : decode b_Model_valued 167 = .ok (.invokevirtual 128, 3) := by decide +kernel
theorem d_Model_valued_170 : decode b_Model_valued 170 = .ok (.lreturn, 1) := by decide +kernel
theorem d_Model_read_0 : decode b_Model_read 0 = .ok (.aload_n 0, 1) := by decide +kernel
theorem d_Model_read_1 : decode b_Model_read 1 = .ok (.invokevirtual 132, 3) := by decide +kernel
theorem d_Model_read_4 : decode b_Model_read 4 = .ok (.istore_n 1, 1) := by decide +kernel
theorem d_Model_read_5 : decode b_Model_read 5 = .ok (.aload_n 0, 1) := by decide +kernel
theorem d_Model_read_6 : decode b_Model_read 6 = .ok (.iconst 0, 1) := by decide +kernel
theorem d_Model_read_7 : decode b_Model_read 7 = .ok (.putfield 47, 3) := by decide +kernel
theorem d_Model_read_10 : decode b_Model_read 10 = .ok (.iload_n 1, 1) := by decide +kernel
theorem d_Model_read_11 : decode b_Model_read 11 = .ok (.ifCond .ne 10, 3) := by decide +kernel
theorem d_Model_read_14 : decode b_Model_read 14 = .ok (.aload_n 0, 1) := by decide +kernel
theorem d_Model_read_15 : decode b_Model_read 15 = .ok (.iconst 1, 1) := by decide +kernel
theorem d_Model_read_16 : decode b_Model_read 16 = .ok (.invokevirtual 136, 3) := by decide +kernel
theorem d_Model_read_19 : decode b_Model_read 19 = .ok (.i2l, 1) := by decide +kernel
theorem d_Model_read_20 : decode b_Model_read 20 = .ok (.lreturn, 1) := by decide +kernel
theorem d_Model_read_21 : decode b_Model_read 21 = .ok (.aload_n 0, 1) := by decide +kernel
theorem d_Model_read_22 : decode b_Model_read 22 = .ok (.iconst 0, 1) := by decide +kernel
theorem d_Model_read_23 : decode b_Model_read 23 = .ok (.putfield 41, 3) := by decide +kernel
theorem d_Model_read_26 : decode b_Model_read 26 = .ok (.aload_n 0, 1) := by decide +kernel
theorem d_Model_read_27 : decode b_Model_read 27 = .ok (.aload_n 0, 1) := by decide +kernel
theorem d_Model_read_28 : decode b_Model_read 28 = .ok (.getfield 44, 3) := by decide +kernel
theorem d_Model_read_31 : decode b_Model_read 31 = .ok (.invokevirtual 139, 3) := by decide +kernel
theorem d_Model_read_34 : decode b_Model_read 34 = .ok (.lstore_n 2, 1) := by decide +kernel
theorem d_Model_read_35 : decode b_Model_read 35 = .ok (.aload_n 0, 1) := by decide +kernel
theorem d_Model_read_36 : decode b_Model_read 36 = .ok (.getfield 81, 3) := by decide +kernel
theorem d_Model_read_39 : decode b_Model_read 39 = .ok (.ifCond .eq 13, 3) := by decide +kernel
theorem d_Model_read_42 : decode b_Model_read 42 = .ok (.aload_n 0, 1) := by decide +kernel
theorem d_Model_read_43 : decode b_Model_read 43 = .ok (.aload_n 0, 1) := by decide +kernel
theorem d_Model_read_44 : decode b_Model_read 44 = .ok (.getfield 52, 3) := by decide +kernel
theorem d_Model_read_47 : decode b_Model_read 47 = .ok (.iconst 1, 1) := by decide +kernel
theorem d_Model_read_48 : decode b_Model_read 48 = .ok (.ior, 1) := by decide +kernel
theorem d_Model_read_49 : decode b_Model_read 49 = .ok (.putfield 52, 3) := by decide +kernel
theorem d_Model_read_52 : decode b_Model_read 52 = .ok (.aload_n 0, 1) := by decide +kernel
theorem d_Model_read_53 : decode b_Model_read 53 = .ok (.getfield 88, 3) := by decide +kernel
theorem d_Model_read_56 : decode b_Model_read 56 = .ok (.ifCond .eq 13, 3) := by decide +kernel
theorem d_Model_read_59 : decode b_Model_read 59 = .ok (.aload_n 0, 1) := by decide +kernel
theorem d_Model_read_60 : decode b_Model_read 60 = .ok (.aload_n 0, 1) := by decide +kernel
theorem d_Model_read_61 : decode b_Model_read 61 = .ok (.getfield 52, 3) := by decide +kernel
theorem d_Model_read_64 : decode b_Model_read 64 = .ok (.iconst 2, 1) := by decide +kernel
theorem d_Model_read_65 : decode b_Model_read 65 = .ok (.ior, 1) := by decide +kernel
theorem d_Model_read_66 : decode b_Model_read 66 = .ok (.putfield 52, 3) := by decide +kernel
theorem d_Model_read_69 : decode b_Model_read 69 = .ok (.aload_n 0, 1) := by decide +kernel
theorem d_Model_read_70 : decode b_Model_read 70 = .ok (.getfield 68, 3) := by decide +kernel
theorem d_Model_read_73 : decode b_Model_read 73 = .ok (.ifCond .eq 13, 3) := by decide +kernel
theorem d_Model_read_76 : decode b_Model_read 76 = .ok (.aload_n 0, 1) := by decide +kernel
theorem d_Model_read_77 : decode b_Model_read 77 = .ok (.aload_n 0, 1) := by decide +kernel
theorem d_Model_read_78 : decode b_Model_read 78 = .ok (.getfield 52, 3) := by decide +kernel
theorem d_Model_read_81 : decode b_Model_read 81 = .ok (.iconst 4, 1) := by decide +kernel
theorem d_Model_read_82 : decode b_Model_read 82 = .ok (.ior, 1) := by decide +kernel
theorem d_Model_read_83 : decode b_Model_read 83 = .ok (.putfield 52, 3) := by decide +kernel
theorem d_Model_read_86 : decode b_Model_read 86 = .ok (.aload_n 0, 1) := by decide +kernel
theorem d_Model_read_87 : decode b_Model_read 87 = .ok (.getfield 112, 3) := by decide +kernel
theorem d_Model_read_90 : decode b_Model_read 90 = .ok (.ifCond .eq 19, 3) := by decide +kernel
theorem d_Model_read_93 : decode b_Model_read 93 = .ok (.lload_n 2, 1) := by decide +kernel
theorem d_Model_read_94 : decode b_Model_read 94 = .ok (.lconst 1, 1) := by decide +kernel
theorem d_Model_read_95 : decode b_Model_read 95 = .ok (.aload_n 0, 1) := by decide +kernel
theorem d_Model_read_96 : decode b_Model_read 96 = .ok (.getfield 7, 3) := by decide +kernel
theorem d_Model_read_99 : decode b_Model_read 99 = .ok (.aload_n 0, 1) := by decide +kernel
theorem d_Model_read_100 : decode b_Model_read 100 = .ok (.getfield 13, 3) := by decide +kernel
theorem d_Model_read_103 : decode b_Model_read 103 = .ok (.iadd, 1) := by decide +kernel
theorem d_Model_read_104 : decode b_Model_read 104 = .ok (.lshl, 1) := by decide +kernel
theorem d_Model_read_105 : decode b_Model_read 105 = .ok (.ladd, 1) := by decide +kernel
theorem d_Model_read_106 : decode b_Model_read 106 = .ok (.goto 4, 3) := by decide +kernel
theorem d_Model_read_109 : decode b_Model_read 109 = .ok (.lload_n 2, 1) := by decide +kernel
theorem d_Model_read_110 : decode b_Model_read 110 = .ok (.lreturn, 1) := by decide +kernel
theorem d_Model_isPattern_0 : decode b_Model_isPattern 0 = .ok (.lload_n 1, 1) := by decide +kernel
theorem d_Model_isPattern_1 : decode b_Model_isPattern 1 = .ok (.lconst 0, 1) := by decide +kernel
theorem d_Model_isPattern_2 : decode b_Model_isPattern 2 = .ok (.lcmp, 1) := by decide +kernel
theorem d_Model_isPattern_3 : decode b_Model_isPattern 3 = .ok (.ifCond .lt 25, 3) := by decide +kernel
theorem d_Model_isPattern_6 : decode b_Model_isPattern 6 = .ok (.lload_n 1, 1) := by decide +kernel
theorem d_Model_isPattern_7 : decode b_Model_isPattern 7 = .ok (.iconst 1, 1) := by decide +kernel
theorem d_Model_isPattern_8 : decode b_Model_isPattern 8 = .ok (.aload_n 0, 1) := by decide +kernel
theorem d_Model_isPattern_9 : decode b_Model_isPattern 9 = .ok (.getfield 7, 3) := by decide +kernel
theorem d_Model_isPattern_12 : decode b_Model_isPattern 12 = .ok (.iadd, 1) := by decide +kernel
theorem d_Model_isPattern_13 : decode b_Model_isPattern 13 = .ok (.aload_n 0, 1) := by decide +kernel
theorem d_Model_isPattern_14 : decode b_Model_isPattern 14 = .ok (.getfield 13, 3) := by decide +kernel
theorem d_Model_isPattern_17 : decode b_Model_isPattern 17 = .ok (.iadd, 1) := by decide +kernel
theorem d_Model_isPattern_18 : decode b_Model_isPattern 18 = .ok (.lshr, 1) := by decide +kernel
theorem d_Model_isPattern_19 : decode b_Model_isPattern 19 = .ok (.lconst 0, 1) := by decide +kernel
theorem d_Model_isPattern_20 : decode b_Model_isPattern 20 = .ok (.lcmp, 1) := by decide +kernel
theorem d_Model_isPattern_21 : decode b_Model_isPattern 21 = .ok (.ifCond .ne 7, 3) := by decide +kernel
theorem d_Model_isPattern_24 : decode b_Model_isPattern 24 = .ok (.iconst 1, 1) := by decide +kernel
theorem d_Model_isPattern_25 : decode b_Model_isPattern 25 = .ok (.goto 4, 3) := by decide +kernel
theorem d_Model_isPattern_28 : decode b_Model_isPattern 28 = .ok (.iconst 0, 1) := by decide +kernel
theorem d_Model_isPattern_29 : decode b_Model_isPattern 29 = .ok (.ireturn, 1) := by decide +kernel
theorem d_Model_sizeOf_0 : decode b_Model_sizeOf 0 = .ok (.lload_n 1, 1) := by decide +kernel
theorem d_Model_sizeOf_1 : decode b_Model_sizeOf 1 = .ok (.lconst 1, 1) := by decide +kernel
theorem d_Model_sizeOf_2 : decode b_Model_sizeOf 2 = .ok (.aload_n 0, 1) := by decide +kernel
theorem d_Model_sizeOf_3 : decode b_Model_sizeOf 3 = .ok (.getfield 7, 3) := by decide +kernel
theorem d_Model_sizeOf_6 : decode b_Model_sizeOf 6 = .ok (.aload_n 0, 1) := by decide +kernel
theorem d_Model_sizeOf_7 : decode b_Model_sizeOf 7 = .ok (.getfield 13, 3) := by decide +kernel
theorem d_Model_sizeOf_10 : decode b_Model_sizeOf 10 = .ok (.iadd, 1) := by decide +kernel
theorem d_Model_sizeOf_11 : decode b_Model_sizeOf 11 = .ok (.lshl, 1) := by decide +kernel
theorem d_Model_sizeOf_12 : decode b_Model_sizeOf 12 = .ok (.lconst 1, 1) := by decide +kernel
theorem d_Model_sizeOf_13 : decode b_Model_sizeOf 13 = .ok (.lsub, 1) := by decide +kernel
theorem d_Model_sizeOf_14 : decode b_Model_sizeOf 14 = .ok (.land, 1) := by decide +kernel
theorem d_Model_sizeOf_15 : decode b_Model_sizeOf 15 = .ok (.lreturn, 1) := by decide +kernel
theorem d_Model_isBelow_0 : decode b_Model_isBelow 0 = .ok (.aload_n 0, 1) := by decide +kernel
theorem d_Model_isBelow_1 : decode b_Model_isBelow 1 = .ok (.lload_n 1, 1) := by decide +kernel
theorem d_Model_isBelow_2 : decode b_Model_isBelow 2 = .ok (.invokevirtual 143, 3) := by decide +kernel
theorem d_Model_isBelow_5 : decode b_Model_isBelow 5 = .ok (.lload_n 1, 1) := by decide +kernel
theorem d_Model_isBelow_6 : decode b_Model_isBelow 6 = .ok (.lcmp, 1) := by decide +kernel
theorem d_Model_isBelow_7 : decode b_Model_isBelow 7 = .ok (.ifCond .eq 7, 3) := by decide +kernel
theorem d_Model_isBelow_10 : decode b_Model_isBelow 10 = .ok (.iconst 1, 1) := by decide +kernel
theorem d_Model_isBelow_11 : decode b_Model_isBelow 11 = .ok (.goto 4, 3) := by decide +kernel
theorem d_Model_isBelow_14 : decode b_Model_isBelow 14 = .ok (.iconst 0, 1) := by decide +kernel
theorem d_Model_isBelow_15 : decode b_Model_isBelow 15 = .ok (.ireturn, 1) := by decide +kernel
theorem d_Model_spread_0 : decode b_Model_spread 0 = .ok (.aload_n 0, 1) := by decide +kernel
theorem d_Model_spread_1 : decode b_Model_spread 1 = .ok (.invokevirtual 121, 3) := by decide +kernel
theorem d_Model_spread_4 : decode b_Model_spread 4 = .ok (.lload_n 1, 1) := by decide +kernel
theorem d_Model_spread_5 : decode b_Model_spread 5 = .ok (.aload_n 0, 1) := by decide +kernel
theorem d_Model_spread_6 : decode b_Model_spread 6 = .ok (.getfield 13, 3) := by decide +kernel
theorem d_Model_spread_9 : decode b_Model_spread 9 = .ok (.lshr, 1) := by decide +kernel
theorem d_Model_spread_10 : decode b_Model_spread 10 = .ok (.l2i, 1) := by decide +kernel
theorem d_Model_spread_11 : decode b_Model_spread 11 = .ok (.istore_n 3, 1) := by decide +kernel
theorem d_Model_spread_12 : decode b_Model_spread 12 = .ok (.lload_n 1, 1) := by decide +kernel
theorem d_Model_spread_13 : decode b_Model_spread 13 = .ok (.lconst 1, 1) := by decide +kernel
theorem d_Model_spread_14 : decode b_Model_spread 14 = .ok (.aload_n 0, 1) := by decide +kernel
theorem d_Model_spread_15 : decode b_Model_spread 15 = .ok (.getfield 13, 3) := by decide +kernel
theorem d_Model_spread_18 : decode b_Model_spread 18 = .ok (.lshl, 1) := by decide +kernel
theorem d_Model_spread_19 : decode b_Model_spread 19 = .ok (.lconst 1, 1) := by decide +kernel
theorem d_Model_spread_20 : decode b_Model_spread 20 = .ok (.lsub, 1) := by decide +kernel
theorem d_Model_spread_21 : decode b_Model_spread 21 = .ok (.land, 1) := by decide +kernel
theorem d_Model_spread_22 : decode b_Model_spread 22 = .ok (.iload_n 3, 1) := by decide +kernel
theorem d_Model_spread_23 : decode b_Model_spread 23 = .ok (.ifCond .le 12, 3) := by decide +kernel
theorem d_Model_spread_26 : decode b_Model_spread 26 = .ok (.lconst 1, 1) := by decide +kernel
theorem d_Model_spread_27 : decode b_Model_spread 27 = .ok (.aload_n 0, 1) := by decide +kernel
theorem d_Model_spread_28 : decode b_Model_spread 28 = .ok (.getfield 13, 3) := by decide +kernel
theorem d_Model_spread_31 : decode b_Model_spread 31 = .ok (.lshl, 1) := by decide +kernel
theorem d_Model_spread_32 : decode b_Model_spread 32 = .ok (.goto 4, 3) := by decide +kernel
theorem d_Model_spread_35 : decode b_Model_spread 35 = .ok (.lconst 0, 1) := by decide +kernel
theorem d_Model_spread_36 : decode b_Model_spread 36 = .ok (.ladd, 1) := by decide +kernel
theorem d_Model_spread_37 : decode b_Model_spread 37 = .ok (.lstore 4, 2) := by decide +kernel
theorem d_Model_spread_39 : decode b_Model_spread 39 = .ok (.iload_n 3, 1) := by decide +kernel
theorem d_Model_spread_40 : decode b_Model_spread 40 = .ok (.ifCond .le 7, 3) := by decide +kernel
theorem d_Model_spread_43 : decode b_Model_spread 43 = .ok (.iload_n 3, 1) := by decide +kernel
theorem d_Model_spread_44 : decode b_Model_spread 44 = .ok (.goto 4, 3) := by decide +kernel
theorem d_Model_spread_47 : decode b_Model_spread 47 = .ok (.iconst 1, 1) := by decide +kernel
theorem d_Model_spread_48 : decode b_Model_spread 48 = .ok (.aload_n 0, 1) := by decide +kernel
theorem d_Model_spread_49 : decode b_Model_spread 49 = .ok (.invokevirtual 55, 3) := by decide +kernel
theorem d_Model_spread_52 : decode b_Model_spread 52 = .ok (.isub, 1) := by decide +kernel
theorem d_Model_spread_53 : decode b_Model_spread 53 = .ok (.aload_n 0, 1) := by decide +kernel
theorem d_Model_spread_54 : decode b_Model_spread 54 = .ok (.getfield 13, 3) := by decide +kernel
theorem d_Model_spread_57 : decode b_Model_spread 57 = .ok (.isub, 1) := by decide +kernel
theorem d_Model_spread_58 : decode b_Model_spread 58 = .ok (.istore 6, 2) := by decide +kernel
theorem d_Model_spread_60 : decode b_Model_spread 60 = .ok (.lload 4, 2) := by decide +kernel
theorem d_Model_spread_62 : decode b_Model_spread 62 = .ok (.lstore 7, 2) := by decide +kernel
theorem d_Model_spread_64 : decode b_Model_spread 64 = .ok (.bipush 60, 2) := by decide +kernel
theorem d_Model_spread_66 : decode b_Model_spread 66 = .ok (.istore 9, 2) := by decide +kernel
theorem d_Model_spread_68 : decode b_Model_spread 68 = .ok (.lload 7, 2) := by decide +kernel
theorem d_Model_spread_70 : decode b_Model_spread 70 = .ok (.lconst 0, 1) := by decide +kernel
theorem d_Model_spread_71 : decode b_Model_spread 71 = .ok (.lcmp, 1) := by decide +kernel
theorem d_Model_spread_72 : decode b_Model_spread 72 = .ok (.ifCond .le 30, 3) := by decide +kernel
theorem d_Model_spread_75 : decode b_Model_spread 75 = .ok (.aload_n 0, 1) := by decide +kernel
theorem d_Model_spread_76 : decode b_Model_spread 76 = .ok (.iload 9, 2) := by decide +kernel
theorem d_Model_spread_78 : decode b_Model_spread 78 = .ok (.lload 7, 2) := by decide +kernel
theorem d_Model_spread_80 : decode b_Model_spread 80 = .ok (.ldc2_w 147, 3) := by decide +kernel
theorem d_Model_spread_83 : decode b_Model_spread 83 = .ok (.lrem, 1) := by decide +kernel
theorem d_Model_spread_84 : decode b_Model_spread 84 = .ok (.l2i, 1) := by decide +kernel
theorem d_Model_spread_85 : decode b_Model_spread 85 = .ok (.invokevirtual 124, 3) := by decide +kernel
theorem d_Model_spread_88 : decode b_Model_spread 88 = .ok (.lload 7, 2) := by decide +kernel
theorem d_Model_spread_90 : decode b_Model_spread 90 = .ok (.ldc2_w 147, 3) := by decide +kernel
theorem d_Model_spread_93 : decode b_Model_spread 93 = .ok (.ldiv, 1) := by decide +kernel
theorem d_Model_spread_94 : decode b_Model_spread 94 = .ok (.lstore 7, 2) := by decide +kernel
theorem d_Model_spread_96 : decode b_Model_spread 96 = .ok (.iinc 9 (-1), 3) := by decide +kernel
theorem d_Model_spread_99 : decode b_Model_spread 99 = .ok (.goto (-31), 3) := by decide +kernel
theorem d_Model_spread_102 : decode b_Model_spread 102 = .ok (.iconst 0, 1) := by decide +kernel
theorem d_Model_spread_103 : decode b_Model_spread 103 = .ok (.istore 9, 2) := by decide +kernel
theorem d_Model_spread_105 : decode b_Model_spread 105 = .ok (.iload 9, 2) := by decide +kernel
theorem d_Model_spread_107 : decode b_Model_spread 107 = .ok (.iload 6, 2) := by decide +kernel
theorem d_Model_spread_109 : decode b_Model_spread 109 = .ok (.if_icmp .ge 13, 3) := by decide +kernel
theorem d_Model_spread_112 : decode b_Model_spread 112 = .ok (.aload_n 0, 1) := by decide +kernel
theorem d_Model_spread_113 : decode b_Model_spread 113 = .ok (.invokevirtual 65, 3) := by decide +kernel
theorem d_Model_spread_116 : decode b_Model_spread 116 = .ok (.iinc 9 1, 3) := by decide +kernel
theorem d_Model_spread_119 : decode b_Model_spread 119 = .ok (.goto (-14), 3) := by decide +kernel
theorem d_Model_spread_122 : decode b_Model_spread 122 = .ok (.iconst 0, 1) := by decide +kernel
theorem d_Model_spread_123 : decode b_Model_spread 123 = .ok (.istore 9, 2) := by decide +kernel
theorem d_Model_spread_125 : decode b_Model_spread 125 = .ok (.iload 9, 2) := by decide +kernel
theorem d_Model_spread_127 : decode b_Model_spread 127 = .ok (.iload 6, 2) := by decide +kernel
theorem d_Model_spread_129 : decode b_Model_spread 129 = .ok (.if_icmp .le 13, 3) := by decide +kernel
theorem d_Model_spread_132 : decode b_Model_spread 132 = .ok (.aload_n 0, 1) := by decide +kernel
theorem d_Model_spread_133 : decode b_Model_spread 133 = .ok (.invokevirtual 62, 3) := by decide +kernel
theorem d_Model_spread_136 : decode b_Model_spread 136 = .ok (.iinc 9 (-1), 3) := by decide +kernel
theorem d_Model_spread_139 : decode b_Model_spread 139 = .ok (.goto (-14), 3) := by decide +kernel
theorem d_Model_spread_142 : decode b_Model_spread 142 = .ok (.return_, 1) := by decide +kernel
theorem d_Model_say_0 : decode b_Model_say 0 = .ok (.aload_n 0, 1) := by decide +kernel
theorem d_Model_say_1 : decode b_Model_say 1 = .ok (.getfield 20, 3) := by decide +kernel
theorem d_Model_say_4 : decode b_Model_say 4 = .ok (.aload_n 0, 1) := by decide +kernel
theorem d_Model_say_5 : decode b_Model_say 5 = .ok (.getfield 149, 3) := by decide +kernel
theorem d_Model_say_8 : decode b_Model_say 8 = .ok (.iload_n 1, 1) := by decide +kernel
theorem d_Model_say_9 : decode b_Model_say 9 = .ok (.iastore, 1) := by decide +kernel
theorem d_Model_say_10 : decode b_Model_say 10 = .ok (.aload_n 0, 1) := by decide +kernel
theorem d_Model_say_11 : decode b_Model_say 11 = .ok (.dup, 1) := by decide +kernel
theorem d_Model_say_12 : decode b_Model_say 12 = .ok (.getfield 149, 3) := by decide +kernel
theorem d_Model_say_15 : decode b_Model_say 15 = .ok (.iconst 1, 1) := by decide +kernel
theorem d_Model_say_16 : decode b_Model_say 16 = .ok (.iadd, 1) := by decide +kernel
theorem d_Model_say_17 : decode b_Model_say 17 = .ok (.putfield 149, 3) := by decide +kernel
theorem d_Model_say_20 : decode b_Model_say 20 = .ok (.return_, 1) := by decide +kernel
theorem d_Model_isStrange_0 : decode b_Model_isStrange 0 = .ok (.aload_n 0, 1) := by decide +kernel
theorem d_Model_isStrange_1 : decode b_Model_isStrange 1 = .ok (.iconst 0, 1) := by decide +kernel
theorem d_Model_isStrange_2 : decode b_Model_isStrange 2 = .ok (.putfield 149, 3) := by decide +kernel
theorem d_Model_isStrange_5 : decode b_Model_isStrange 5 = .ok (.aload_n 0, 1) := by decide +kernel
theorem d_Model_isStrange_6 : decode b_Model_isStrange 6 = .ok (.lload_n 1, 1) := by decide +kernel
theorem d_Model_isStrange_7 : decode b_Model_isStrange 7 = .ok (.invokevirtual 143, 3) := by decide +kernel
theorem d_Model_isStrange_10 : decode b_Model_isStrange 10 = .ok (.lstore_n 3, 1) := by decide +kernel
theorem d_Model_isStrange_11 : decode b_Model_isStrange 11 = .ok (.lload_n 3, 1) := by decide +kernel
theorem d_Model_isStrange_12 : decode b_Model_isStrange 12 = .ok (.aload_n 0, 1) := by decide +kernel
theorem d_Model_isStrange_13 : decode b_Model_isStrange 13 = .ok (.invokevirtual 91, 3) := by decide +kernel
theorem d_Model_isStrange_16 : decode b_Model_isStrange 16 = .ok (.lcmp, 1) := by decide +kernel
theorem d_Model_isStrange_17 : decode b_Model_isStrange 17 = .ok (.ifCond .ge 19, 3) := by decide +kernel
theorem d_Model_isStrange_20 : decode b_Model_isStrange 20 = .ok (.aload_n 0, 1) := by decide +kernel
theorem d_Model_isStrange_21 : decode b_Model_isStrange 21 = .ok (.lload_n 1, 1) := by decide +kernel
theorem d_Model_isStrange_22 : decode b_Model_isStrange 22 = .ok (.invokevirtual 152, 3) := by decide +kernel
theorem d_Model_isStrange_25 : decode b_Model_isStrange 25 = .ok (.ifCond .eq 9, 3) := by decide +kernel
theorem d_Model_isStrange_28 : decode b_Model_isStrange 28 = .ok (.aload_n 0, 1) := by decide +kernel
theorem d_Model_isStrange_29 : decode b_Model_isStrange 29 = .ok (.bipush 45, 2) := by decide +kernel
theorem d_Model_isStrange_31 : decode b_Model_isStrange 31 = .ok (.invokevirtual 156, 3) := by decide +kernel
theorem d_Model_isStrange_34 : decode b_Model_isStrange 34 = .ok (.iconst 0, 1) := by decide +kernel
theorem d_Model_isStrange_35 : decode b_Model_isStrange 35 = .ok (.ireturn, 1) := by decide +kernel
theorem d_Model_isStrange_36 : decode b_Model_isStrange 36 = .ok (.lload_n 3, 1) := by decide +kernel
theorem d_Model_isStrange_37 : decode b_Model_isStrange 37 = .ok (.aload_n 0, 1) := by decide +kernel
theorem d_Model_isStrange_38 : decode b_Model_isStrange 38 = .ok (.invokevirtual 91, 3) := by decide +kernel
theorem d_Model_isStrange_41 : decode b_Model_isStrange 41 = .ok (.lcmp, 1) := by decide +kernel
theorem d_Model_isStrange_42 : decode b_Model_isStrange 42 = .ok (.ifCond .le 23, 3) := by decide +kernel
theorem d_Model_isStrange_45 : decode b_Model_isStrange 45 = .ok (.aload_n 0, 1) := by decide +kernel
theorem d_Model_isStrange_46 : decode b_Model_isStrange 46 = .ok (.bipush 110, 2) := by decide +kernel
theorem d_Model_isStrange_48 : decode b_Model_isStrange 48 = .ok (.invokevirtual 156, 3) := by decide +kernel
theorem d_Model_isStrange_51 : decode b_Model_isStrange 51 = .ok (.aload_n 0, 1) := by decide +kernel
theorem d_Model_isStrange_52 : decode b_Model_isStrange 52 = .ok (.bipush 97, 2) := by decide +kernel
theorem d_Model_isStrange_54 : decode b_Model_isStrange 54 = .ok (.invokevirtual 156, 3) := by decide +kernel
theorem d_Model_isStrange_57 : decode b_Model_isStrange 57 = .ok (.aload_n 0, 1) := by decide +kernel
theorem d_Model_isStrange_58 : decode b_Model_isStrange 58 = .ok (.bipush 110, 2) := by decide +kernel
theorem d_Model_isStrange_60 : decode b_Model_isStrange 60 = .ok (.invokevirtual 156, 3) := by decide +kernel
theorem d_Model_isStrange_63 : decode b_Model_isStrange 63 = .ok (.iconst 1, 1) := by decide +kernel
theorem d_Model_isStrange_64 : decode b_Model_isStrange 64 = .ok (.ireturn, 1) := by decide +kernel
theorem d_Model_isStrange_65 : decode b_Model_isStrange 65 = .ok (.aload_n 0, 1) := by decide +kernel
theorem d_Model_isStrange_66 : decode b_Model_isStrange 66 = .ok (.lload_n 1, 1) := by decide +kernel
theorem d_Model_isStrange_67 : decode b_Model_isStrange 67 = .ok (.invokevirtual 152, 3) := by decide +kernel
theorem d_Model_isStrange_70 : decode b_Model_isStrange 70 = .ok (.ifCond .eq 9, 3) := by decide +kernel
theorem d_Model_isStrange_73 : decode b_Model_isStrange 73 = .ok (.aload_n 0, 1) := by decide +kernel
theorem d_Model_isStrange_74 : decode b_Model_isStrange 74 = .ok (.bipush 45, 2) := by decide +kernel
theorem d_Model_isStrange_76 : decode b_Model_isStrange 76 = .ok (.invokevirtual 156, 3) := by decide +kernel
theorem d_Model_isStrange_79 : decode b_Model_isStrange 79 = .ok (.aload_n 0, 1) := by decide +kernel
theorem d_Model_isStrange_80 : decode b_Model_isStrange 80 = .ok (.bipush 105, 2) := by decide +kernel
theorem d_Model_isStrange_82 : decode b_Model_isStrange 82 = .ok (.invokevirtual 156, 3) := by decide +kernel
theorem d_Model_isStrange_85 : decode b_Model_isStrange 85 = .ok (.aload_n 0, 1) := by decide +kernel
theorem d_Model_isStrange_86 : decode b_Model_isStrange 86 = .ok (.bipush 110, 2) := by decide +kernel
theorem d_Model_isStrange_88 : decode b_Model_isStrange 88 = .ok (.invokevirtual 156, 3) := by decide +kernel
theorem d_Model_isStrange_91 : decode b_Model_isStrange 91 = .ok (.aload_n 0, 1) := by decide +kernel
theorem d_Model_isStrange_92 : decode b_Model_isStrange 92 = .ok (.bipush 102, 2) := by decide +kernel
theorem d_Model_isStrange_94 : decode b_Model_isStrange 94 = .ok (.invokevirtual 156, 3) := by decide +kernel
theorem d_Model_isStrange_97 : decode b_Model_isStrange 97 = .ok (.iconst 1, 1) := by decide +kernel
theorem d_Model_isStrange_98 : decode b_Model_isStrange 98 = .ok (.ireturn, 1) := by decide +kernel
theorem d_Model_exact_0 : decode b_Model_exact 0 = .ok (.aload_n 0, 1) := by decide +kernel
theorem d_Model_exact_1 : decode b_Model_exact 1 = .ok (.lload_n 1, 1) := by decide +kernel
theorem d_Model_exact_2 : decode b_Model_exact 2 = .ok (.invokevirtual 160, 3) := by decide +kernel
theorem d_Model_exact_5 : decode b_Model_exact 5 = .ok (.ifCond .ne 9, 3) := by decide +kernel
theorem d_Model_exact_8 : decode b_Model_exact 8 = .ok (.aload_n 0, 1) := by decide +kernel
theorem d_Model_exact_9 : decode b_Model_exact 9 = .ok (.iconst 1, 1) := by decide +kernel
theorem d_Model_exact_10 : decode b_Model_exact 10 = .ok (.invokevirtual 136, 3) := by decide +kernel
theorem d_Model_exact_13 : decode b_Model_exact 13 = .ok (.ireturn, 1) := by decide +kernel
theorem d_Model_exact_14 : decode b_Model_exact 14 = .ok (.aload_n 0, 1) := by decide +kernel
theorem d_Model_exact_15 : decode b_Model_exact 15 = .ok (.iconst 0, 1) := by decide +kernel
theorem d_Model_exact_16 : decode b_Model_exact 16 = .ok (.putfield 41, 3) := by decide +kernel
theorem d_Model_exact_19 : decode b_Model_exact 19 = .ok (.aload_n 0, 1) := by decide +kernel
theorem d_Model_exact_20 : decode b_Model_exact 20 = .ok (.lload_n 1, 1) := by decide +kernel
theorem d_Model_exact_21 : decode b_Model_exact 21 = .ok (.invokevirtual 163, 3) := by decide +kernel
