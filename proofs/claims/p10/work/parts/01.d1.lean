theorem d_Decimal_takeDigits_102 : decode b_Decimal_takeDigits 102 = .ok (.iconst 0, 1) := by decide +kernel
theorem d_Decimal_takeDigits_103 : decode b_Decimal_takeDigits 103 = .ok (.goto 7, 3) := by decide +kernel
theorem d_Decimal_takeDigits_106 : decode b_Decimal_takeDigits 106 = .ok (.iload 4, 2) := by decide +kernel
theorem d_Decimal_takeDigits_108 : decode b_Decimal_takeDigits 108 = .ok (.iload_n 3, 1) := by decide +kernel
theorem d_Decimal_takeDigits_109 : decode b_Decimal_takeDigits 109 = .ok (.isub, 1) := by decide +kernel
theorem d_Decimal_takeDigits_110 : decode b_Decimal_takeDigits 110 = .ok (.putfield 20, 3) := by decide +kernel
theorem d_Decimal_takeDigits_113 : decode b_Decimal_takeDigits 113 = .ok (.iload 5, 2) := by decide +kernel
theorem d_Decimal_takeDigits_115 : decode b_Decimal_takeDigits 115 = .ok (.ireturn, 1) := by decide +kernel
theorem d_Decimal_takePower_0 : decode b_Decimal_takePower 0 = .ok (.aload_n 1, 1) := by decide +kernel
theorem d_Decimal_takePower_1 : decode b_Decimal_takePower 1 = .ok (.iload_n 2, 1) := by decide +kernel
theorem d_Decimal_takePower_2 : decode b_Decimal_takePower 2 = .ok (.invokevirtual 28, 3) := by decide +kernel
theorem d_Decimal_takePower_5 : decode b_Decimal_takePower 5 = .ok (.iconst (-1), 1) := by decide +kernel
theorem d_Decimal_takePower_6 : decode b_Decimal_takePower 6 = .ok (.if_icmp .ne 5, 3) := by decide +kernel
theorem d_Decimal_takePower_9 : decode b_Decimal_takePower 9 = .ok (.iconst 1, 1) := by decide +kernel
theorem d_Decimal_takePower_10 : decode b_Decimal_takePower 10 = .ok (.ireturn, 1) := by decide +kernel
theorem d_Decimal_takePower_11 : decode b_Decimal_takePower 11 = .ok (.aload_n 1, 1) := by decide +kernel
theorem d_Decimal_takePower_12 : decode b_Decimal_takePower 12 = .ok (.iload_n 2, 1) := by decide +kernel
theorem d_Decimal_takePower_13 : decode b_Decimal_takePower 13 = .ok (.invokevirtual 28, 3) := by decide +kernel
theorem d_Decimal_takePower_16 : decode b_Decimal_takePower 16 = .ok (.bipush 101, 2) := by decide +kernel
theorem d_Decimal_takePower_18 : decode b_Decimal_takePower 18 = .ok (.if_icmp .eq 5, 3) := by decide +kernel
theorem d_Decimal_takePower_21 : decode b_Decimal_takePower 21 = .ok (.iconst 0, 1) := by decide +kernel
theorem d_Decimal_takePower_22 : decode b_Decimal_takePower 22 = .ok (.ireturn, 1) := by decide +kernel
theorem d_Decimal_takePower_23 : decode b_Decimal_takePower 23 = .ok (.iload_n 2, 1) := by decide +kernel
theorem d_Decimal_takePower_24 : decode b_Decimal_takePower 24 = .ok (.iconst 1, 1) := by decide +kernel
theorem d_Decimal_takePower_25 : decode b_Decimal_takePower 25 = .ok (.iadd, 1) := by decide +kernel
theorem d_Decimal_takePower_26 : decode b_Decimal_takePower 26 = .ok (.istore_n 3, 1) := by decide +kernel
theorem d_Decimal_takePower_27 : decode b_Decimal_takePower 27 = .ok (.aload_n 1, 1) := by decide +kernel
theorem d_Decimal_takePower_28 : decode b_Decimal_takePower 28 = .ok (.iload_n 3, 1) := by decide +kernel
theorem d_Decimal_takePower_29 : decode b_Decimal_takePower 29 = .ok (.invokevirtual 28, 3) := by decide +kernel
theorem d_Decimal_takePower_32 : decode b_Decimal_takePower 32 = .ok (.bipush 45, 2) := by decide +kernel
theorem d_Decimal_takePower_34 : decode b_Decimal_takePower 34 = .ok (.if_icmp .ne 7, 3) := by decide +kernel
theorem d_Decimal_takePower_37 : decode b_Decimal_takePower 37 = .ok (.iconst 1, 1) := by decide +kernel
theorem d_Decimal_takePower_38 : decode b_Decimal_takePower 38 = .ok (.goto 4, 3) := by decide +kernel
theorem d_Decimal_takePower_41 : decode b_Decimal_takePower 41 = .ok (.iconst 0, 1) := by decide +kernel
theorem d_Decimal_takePower_42 : decode b_Decimal_takePower 42 = .ok (.istore 4, 2) := by decide +kernel
theorem d_Decimal_takePower_44 : decode b_Decimal_takePower 44 = .ok (.iload 4, 2) := by decide +kernel
theorem d_Decimal_takePower_46 : decode b_Decimal_takePower 46 = .ok (.ifCond .ne 13, 3) := by decide +kernel
theorem d_Decimal_takePower_49 : decode b_Decimal_takePower 49 = .ok (.aload_n 1, 1) := by decide +kernel
theorem d_Decimal_takePower_50 : decode b_Decimal_takePower 50 = .ok (.iload_n 3, 1) := by decide +kernel
theorem d_Decimal_takePower_51 : decode b_Decimal_takePower 51 = .ok (.invokevirtual 28, 3) := by decide +kernel
theorem d_Decimal_takePower_54 : decode b_Decimal_takePower 54 = .ok (.bipush 43, 2) := by decide +kernel
theorem d_Decimal_takePower_56 : decode b_Decimal_takePower 56 = .ok (.if_icmp .ne 6, 3) := by decide +kernel
theorem d_Decimal_takePower_59 : decode b_Decimal_takePower 59 = .ok (.iinc 3 1, 3) := by decide +kernel
theorem d_Decimal_takePower_62 : decode b_Decimal_takePower 62 = .ok (.iconst 0, 1) := by decide +kernel
theorem d_Decimal_takePower_63 : decode b_Decimal_takePower 63 = .ok (.istore 5, 2) := by decide +kernel
theorem d_Decimal_takePower_65 : decode b_Decimal_takePower 65 = .ok (.iconst 0, 1) := by decide +kernel
theorem d_Decimal_takePower_66 : decode b_Decimal_takePower 66 = .ok (.istore 6, 2) := by decide +kernel
theorem d_Decimal_takePower_68 : decode b_Decimal_takePower 68 = .ok (.iload 6, 2) := by decide +kernel
theorem d_Decimal_takePower_70 : decode b_Decimal_takePower 70 = .ok (.iconst 3, 1) := by decide +kernel
theorem d_Decimal_takePower_71 : decode b_Decimal_takePower 71 = .ok (.if_icmp .ge 39, 3) := by decide +kernel
theorem d_Decimal_takePower_74 : decode b_Decimal_takePower 74 = .ok (.aload_n 1, 1) := by decide +kernel
theorem d_Decimal_takePower_75 : decode b_Decimal_takePower 75 = .ok (.iload_n 3, 1) := by decide +kernel
theorem d_Decimal_takePower_76 : decode b_Decimal_takePower 76 = .ok (.invokevirtual 28, 3) := by decide +kernel
theorem d_Decimal_takePower_79 : decode b_Decimal_takePower 79 = .ok (.invokestatic 42, 3) := by decide +kernel
theorem d_Decimal_takePower_82 : decode b_Decimal_takePower 82 = .ok (.ifCond .eq 28, 3) := by decide +kernel
theorem d_Decimal_takePower_85 : decode b_Decimal_takePower 85 = .ok (.iload 5, 2) := by decide +kernel
theorem d_Decimal_takePower_87 : decode b_Decimal_takePower 87 = .ok (.bipush 10, 2) := by decide +kernel
theorem d_Decimal_takePower_89 : decode b_Decimal_takePower 89 = .ok (.imul, 1) := by decide +kernel
theorem d_Decimal_takePower_90 : decode b_Decimal_takePower 90 = .ok (.aload_n 1, 1) := by decide +kernel
theorem d_Decimal_takePower_91 : decode b_Decimal_takePower 91 = .ok (.iload_n 3, 1) := by decide +kernel
theorem d_Decimal_takePower_92 : decode b_Decimal_takePower 92 = .ok (.invokevirtual 28, 3) := by decide +kernel
theorem d_Decimal_takePower_95 : decode b_Decimal_takePower 95 = .ok (.iadd, 1) := by decide +kernel
theorem d_Decimal_takePower_96 : decode b_Decimal_takePower 96 = .ok (.bipush 48, 2) := by decide +kernel
theorem d_Decimal_takePower_98 : decode b_Decimal_takePower 98 = .ok (.isub, 1) := by decide +kernel
theorem d_Decimal_takePower_99 : decode b_Decimal_takePower 99 = .ok (.istore 5, 2) := by decide +kernel
theorem d_Decimal_takePower_101 : decode b_Decimal_takePower 101 = .ok (.iinc 3 1, 3) := by decide +kernel
theorem d_Decimal_takePower_104 : decode b_Decimal_takePower 104 = .ok (.iinc 6 1, 3) := by decide +kernel
theorem d_Decimal_takePower_107 : decode b_Decimal_takePower 107 = .ok (.goto (-39), 3) := by decide +kernel
theorem d_Decimal_takePower_110 : decode b_Decimal_takePower 110 = .ok (.aload_n 0, 1) := by decide +kernel
theorem d_Decimal_takePower_111 : decode b_Decimal_takePower 111 = .ok (.iload 4, 2) := by decide +kernel
theorem d_Decimal_takePower_113 : decode b_Decimal_takePower 113 = .ok (.ifCond .eq 13, 3) := by decide +kernel
theorem d_Decimal_takePower_116 : decode b_Decimal_takePower 116 = .ok (.aload_n 0, 1) := by decide +kernel
theorem d_Decimal_takePower_117 : decode b_Decimal_takePower 117 = .ok (.getfield 20, 3) := by decide +kernel
theorem d_Decimal_takePower_120 : decode b_Decimal_takePower 120 = .ok (.iload 5, 2) := by decide +kernel
theorem d_Decimal_takePower_122 : decode b_Decimal_takePower 122 = .ok (.isub, 1) := by decide +kernel
theorem d_Decimal_takePower_123 : decode b_Decimal_takePower 123 = .ok (.goto 10, 3) := by decide +kernel
theorem d_Decimal_takePower_126 : decode b_Decimal_takePower 126 = .ok (.aload_n 0, 1) := by decide +kernel
theorem d_Decimal_takePower_127 : decode b_Decimal_takePower 127 = .ok (.getfield 20, 3) := by decide +kernel
theorem d_Decimal_takePower_130 : decode b_Decimal_takePower 130 = .ok (.iload 5, 2) := by decide +kernel
theorem d_Decimal_takePower_132 : decode b_Decimal_takePower 132 = .ok (.iadd, 1) := by decide +kernel
theorem d_Decimal_takePower_133 : decode b_Decimal_takePower 133 = .ok (.putfield 20, 3) := by decide +kernel
theorem d_Decimal_takePower_136 : decode b_Decimal_takePower 136 = .ok (.iload 6, 2) := by decide +kernel
theorem d_Decimal_takePower_138 : decode b_Decimal_takePower 138 = .ok (.ifCond .le 16, 3) := by decide +kernel
theorem d_Decimal_takePower_141 : decode b_Decimal_takePower 141 = .ok (.aload_n 1, 1) := by decide +kernel
theorem d_Decimal_takePower_142 : decode b_Decimal_takePower 142 = .ok (.iload_n 3, 1) := by decide +kernel
theorem d_Decimal_takePower_143 : decode b_Decimal_takePower 143 = .ok (.invokevirtual 28, 3) := by decide +kernel
theorem d_Decimal_takePower_146 : decode b_Decimal_takePower 146 = .ok (.iconst (-1), 1) := by decide +kernel
theorem d_Decimal_takePower_147 : decode b_Decimal_takePower 147 = .ok (.if_icmp .ne 7, 3) := by decide +kernel
theorem d_Decimal_takePower_150 : decode b_Decimal_takePower 150 = .ok (.iconst 1, 1) := by decide +kernel
theorem d_Decimal_takePower_151 : decode b_Decimal_takePower 151 = .ok (.goto 4, 3) := by decide +kernel
theorem d_Decimal_takePower_154 : decode b_Decimal_takePower 154 = .ok (.iconst 0, 1) := by decide +kernel
theorem d_Decimal_takePower_155 : decode b_Decimal_takePower 155 = .ok (.ireturn, 1) := by decide +kernel
theorem d_Decimal_isDigit_0 : decode b_Decimal_isDigit 0 = .ok (.iload_n 0, 1) := by decide +kernel
theorem d_Decimal_isDigit_1 : decode b_Decimal_isDigit 1 = .ok (.bipush 48, 2) := by decide +kernel
theorem d_Decimal_isDigit_3 : decode b_Decimal_isDigit 3 = .ok (.if_icmp .lt 13, 3) := by decide +kernel
theorem d_Decimal_isDigit_6 : decode b_Decimal_isDigit 6 = .ok (.iload_n 0, 1) := by decide +kernel
theorem d_Decimal_isDigit_7 : decode b_Decimal_isDigit 7 = .ok (.bipush 57, 2) := by decide +kernel
theorem d_Decimal_isDigit_9 : decode b_Decimal_isDigit 9 = .ok (.if_icmp .gt 7, 3) := by decide +kernel
theorem d_Decimal_isDigit_12 : decode b_Decimal_isDigit 12 = .ok (.iconst 1, 1) := by decide +kernel
theorem d_Decimal_isDigit_13 : decode b_Decimal_isDigit 13 = .ok (.goto 4, 3) := by decide +kernel
theorem d_Decimal_isDigit_16 : decode b_Decimal_isDigit 16 = .ok (.iconst 0, 1) := by decide +kernel
theorem d_Decimal_isDigit_17 : decode b_Decimal_isDigit 17 = .ok (.ireturn, 1) := by decide +kernel
theorem d_Rounder_init_0 : decode b_Rounder_init 0 = .ok (.aload_n 0, 1) := by decide +kernel
theorem d_Rounder_init_1 : decode b_Rounder_init 1 = .ok (.invokespecial 3, 3) := by decide +kernel
theorem d_Rounder_init_4 : decode b_Rounder_init 4 = .ok (.aload_n 0, 1) := by decide +kernel
theorem d_Rounder_init_5 : decode b_Rounder_init 5 = .ok (.new 9, 3) := by decide +kernel
theorem d_Rounder_init_8 : decode b_Rounder_init 8 = .ok (.dup, 1) := by decide +kernel
theorem d_Rounder_init_9 : decode b_Rounder_init 9 = .ok (.invokespecial 11, 3) := by decide +kernel
theorem d_Rounder_init_12 : decode b_Rounder_init 12 = .ok (.putfield 12, 3) := by decide +kernel
theorem d_Rounder_init_15 : decode b_Rounder_init 15 = .ok (.aload_n 0, 1) := by decide +kernel
theorem d_Rounder_init_16 : decode b_Rounder_init 16 = .ok (.new 9, 3) := by decide +kernel
theorem d_Rounder_init_19 : decode b_Rounder_init 19 = .ok (.dup, 1) := by decide +kernel
theorem d_Rounder_init_20 : decode b_Rounder_init 20 = .ok (.invokespecial 11, 3) := by decide +kernel
theorem d_Rounder_init_23 : decode b_Rounder_init 23 = .ok (.putfield 18, 3) := by decide +kernel
theorem d_Rounder_init_26 : decode b_Rounder_init 26 = .ok (.aload_n 0, 1) := by decide +kernel
theorem d_Rounder_init_27 : decode b_Rounder_init 27 = .ok (.lconst 0, 1) := by decide +kernel
theorem d_Rounder_init_28 : decode b_Rounder_init 28 = .ok (.putfield 21, 3) := by decide +kernel
theorem d_Rounder_init_31 : decode b_Rounder_init 31 = .ok (.aload_n 0, 1) := by decide +kernel
theorem d_Rounder_init_32 : decode b_Rounder_init 32 = .ok (.iconst 0, 1) := by decide +kernel
theorem d_Rounder_init_33 : decode b_Rounder_init 33 = .ok (.putfield 25, 3) := by decide +kernel
theorem d_Rounder_init_36 : decode b_Rounder_init 36 = .ok (.aload_n 0, 1) := by decide +kernel
theorem d_Rounder_init_37 : decode b_Rounder_init 37 = .ok (.iconst 0, 1) := by decide +kernel
theorem d_Rounder_init_38 : decode b_Rounder_init 38 = .ok (.putfield 29, 3) := by decide +kernel
theorem d_Rounder_init_41 : decode b_Rounder_init 41 = .ok (.return_, 1) := by decide +kernel
theorem d_Rounder_round_0 : decode b_Rounder_round 0 = .ok (.aload_n 0, 1) := by decide +kernel
theorem d_Rounder_round_1 : decode b_Rounder_round 1 = .ok (.lconst 0, 1) := by decide +kernel
theorem d_Rounder_round_2 : decode b_Rounder_round 2 = .ok (.putfield 21, 3) := by decide +kernel
theorem d_Rounder_round_5 : decode b_Rounder_round 5 = .ok (.aload_n 0, 1) := by decide +kernel
theorem d_Rounder_round_6 : decode b_Rounder_round 6 = .ok (.iconst 0, 1) := by decide +kernel
theorem d_Rounder_round_7 : decode b_Rounder_round 7 = .ok (.putfield 25, 3) := by decide +kernel
theorem d_Rounder_round_10 : decode b_Rounder_round 10 = .ok (.aload_n 0, 1) := by decide +kernel
theorem d_Rounder_round_11 : decode b_Rounder_round 11 = .ok (.iconst 0, 1) := by decide +kernel
theorem d_Rounder_round_12 : decode b_Rounder_round 12 = .ok (.putfield 29, 3) := by decide +kernel
theorem d_Rounder_round_15 : decode b_Rounder_round 15 = .ok (.aload_n 1, 1) := by decide +kernel
theorem d_Rounder_round_16 : decode b_Rounder_round 16 = .ok (.getfield 32, 3) := by decide +kernel
theorem d_Rounder_round_19 : decode b_Rounder_round 19 = .ok (.invokevirtual 37, 3) := by decide +kernel
theorem d_Rounder_round_22 : decode b_Rounder_round 22 = .ok (.ifCond .eq 4, 3) := by decide +kernel
theorem d_Rounder_round_25 : decode b_Rounder_round 25 = .ok (.return_, 1) := by decide +kernel
theorem d_Rounder_round_26 : decode b_Rounder_round 26 = .ok (.aload_n 0, 1) := by decide +kernel
theorem d_Rounder_round_27 : decode b_Rounder_round 27 = .ok (.aload_n 1, 1) := by decide +kernel
theorem d_Rounder_round_28 : decode b_Rounder_round 28 = .ok (.invokevirtual 41, 3) := by decide +kernel
theorem d_Rounder_round_31 : decode b_Rounder_round 31 = .ok (.aload_n 0, 1) := by decide +kernel
theorem d_Rounder_round_32 : decode b_Rounder_round 32 = .ok (.invokevirtual 45, 3) := by decide +kernel
theorem d_Rounder_round_35 : decode b_Rounder_round 35 = .ok (.istore 4, 2) := by decide +kernel
theorem d_Rounder_round_37 : decode b_Rounder_round 37 = .ok (.aload_n 2, 1) := by decide +kernel
theorem d_Rounder_round_38 : decode b_Rounder_round 38 = .ok (.invokevirtual 49, 3) := by decide +kernel
theorem d_Rounder_round_41 : decode b_Rounder_round 41 = .ok (.istore 5, 2) := by decide +kernel
theorem d_Rounder_round_43 : decode b_Rounder_round 43 = .ok (.iload 4, 2) := by decide +kernel
theorem d_Rounder_round_45 : decode b_Rounder_round 45 = .ok (.aload_n 2, 1) := by decide +kernel
theorem d_Rounder_round_46 : decode b_Rounder_round 46 = .ok (.getfield 54, 3) := by decide +kernel
theorem d_Rounder_round_49 : decode b_Rounder_round 49 = .ok (.isub, 1) := by decide +kernel
theorem d_Rounder_round_50 : decode b_Rounder_round 50 = .ok (.iload 5, 2) := by decide +kernel
theorem d_Rounder_round_52 : decode b_Rounder_round 52 = .ok (.invokestatic 58, 3) := by decide +kernel
theorem d_Rounder_round_55 : decode b_Rounder_round 55 = .ok (.istore 6, 2) := by decide +kernel
theorem d_Rounder_round_57 : decode b_Rounder_round 57 = .ok (.iload 4, 2) := by decide +kernel
theorem d_Rounder_round_59 : decode b_Rounder_round 59 = .ok (.iload 6, 2) := by decide +kernel
theorem d_Rounder_round_61 : decode b_Rounder_round 61 = .ok (.isub, 1) := by decide +kernel
theorem d_Rounder_round_62 : decode b_Rounder_round 62 = .ok (.iconst 1, 1) := by decide +kernel
theorem d_Rounder_round_63 : decode b_Rounder_round 63 = .ok (.iadd, 1) := by decide +kernel
theorem d_Rounder_round_64 : decode b_Rounder_round 64 = .ok (.istore 7, 2) := by decide +kernel
theorem d_Rounder_round_66 : decode b_Rounder_round 66 = .ok (.aload_n 0, 1) := by decide +kernel
theorem d_Rounder_round_67 : decode b_Rounder_round 67 = .ok (.iload 7, 2) := by decide +kernel
theorem d_Rounder_round_69 : decode b_Rounder_round 69 = .ok (.invokevirtual 64, 3) := by decide +kernel
theorem d_Rounder_round_72 : decode b_Rounder_round 72 = .ok (.lstore 8, 2) := by decide +kernel
theorem d_Rounder_round_74 : decode b_Rounder_round 74 = .ok (.iload 7, 2) := by decide +kernel
theorem d_Rounder_round_76 : decode b_Rounder_round 76 = .ok (.ifCond .ge 7, 3) := by decide +kernel
theorem d_Rounder_round_79 : decode b_Rounder_round 79 = .ok (.iconst (-1), 1) := by decide +kernel
theorem d_Rounder_round_80 : decode b_Rounder_round 80 = .ok (.goto 14, 3) := by decide +kernel
theorem d_Rounder_round_83 : decode b_Rounder_round 83 = .ok (.aload_n 0, 1) := by decide +kernel
theorem d_Rounder_round_84 : decode b_Rounder_round 84 = .ok (.getfield 12, 3) := by decide +kernel
theorem d_Rounder_round_87 : decode b_Rounder_round 87 = .ok (.aload_n 0, 1) := by decide +kernel
theorem d_Rounder_round_88 : decode b_Rounder_round 88 = .ok (.getfield 18, 3) := by decide +kernel
theorem d_Rounder_round_91 : decode b_Rounder_round 91 = .ok (.invokevirtual 68, 3) := by decide +kernel
theorem d_Rounder_round_94 : decode b_Rounder_round 94 = .ok (.istore 10, 2) := by decide +kernel
theorem d_Rounder_round_96 : decode b_Rounder_round 96 = .ok (.aload_n 0, 1) := by decide +kernel
theorem d_Rounder_round_97 : decode b_Rounder_round 97 = .ok (.aload_n 0, 1) := by decide +kernel
theorem d_Rounder_round_98 : decode b_Rounder_round 98 = .ok (.getfield 12, 3) := by decide +kernel
theorem d_Rounder_round_101 : decode b_Rounder_round 101 = .ok (.invokevirtual 37, 3) := by decide +kernel
theorem d_Rounder_round_104 : decode b_Rounder_round 104 = .ok (.ifCond .ne 7, 3) := by decide +kernel
theorem d_Rounder_round_107 : decode b_Rounder_round 107 = .ok (.iconst 1, 1) := by decide +kernel
theorem d_Rounder_round_108 : decode b_Rounder_round 108 = .ok (.goto 4, 3) := by decide +kernel
theorem d_Rounder_round_111 : decode b_Rounder_round 111 = .ok (.iconst 0, 1) := by decide +kernel
theorem d_Rounder_round_112 : decode b_Rounder_round 112 = .ok (.putfield 25, 3) := by decide +kernel
theorem d_Rounder_round_115 : decode b_Rounder_round 115 = .ok (.aload_n 0, 1) := by decide +kernel
theorem d_Rounder_round_116 : decode b_Rounder_round 116 = .ok (.iload 4, 2) := by decide +kernel
theorem d_Rounder_round_118 : decode b_Rounder_round 118 = .ok (.iconst 1, 1) := by decide +kernel
theorem d_Rounder_round_119 : decode b_Rounder_round 119 = .ok (.aload_n 2, 1) := by decide +kernel
theorem d_Rounder_round_120 : decode b_Rounder_round 120 = .ok (.invokevirtual 72, 3) := by decide +kernel
theorem d_Rounder_round_123 : decode b_Rounder_round 123 = .ok (.isub, 1) := by decide +kernel
theorem d_Rounder_round_124 : decode b_Rounder_round 124 = .ok (.if_icmp .ge 7, 3) := by decide +kernel
theorem d_Rounder_round_127 : decode b_Rounder_round 127 = .ok (.iconst 1, 1) := by decide +kernel
theorem d_Rounder_round_128 : decode b_Rounder_round 128 = .ok (.goto 4, 3) := by decide +kernel
theorem d_Rounder_round_131 : decode b_Rounder_round 131 = .ok (.iconst 0, 1) := by decide +kernel
theorem d_Rounder_round_132 : decode b_Rounder_round 132 = .ok (.putfield 29, 3) := by decide +kernel
theorem d_Rounder_round_135 : decode b_Rounder_round 135 = .ok (.lload 8, 2) := by decide +kernel
theorem d_Rounder_round_137 : decode b_Rounder_round 137 = .ok (.lconst 1, 1) := by decide +kernel
theorem d_Rounder_round_138 : decode b_Rounder_round 138 = .ok (.land, 1) := by decide +kernel
theorem d_Rounder_round_139 : decode b_Rounder_round 139 = .ok (.lconst 1, 1) := by decide +kernel
theorem d_Rounder_round_140 : decode b_Rounder_round 140 = .ok (.lcmp, 1) := by decide +kernel
theorem d_Rounder_round_141 : decode b_Rounder_round 141 = .ok (.ifCond .ne 7, 3) := by decide +kernel
theorem d_Rounder_round_144 : decode b_Rounder_round 144 = .ok (.iconst 1, 1) := by decide +kernel
theorem d_Rounder_round_145 : decode b_Rounder_round 145 = .ok (.goto 4, 3) := by decide +kernel
theorem d_Rounder_round_148 : decode b_Rounder_round 148 = .ok (.iconst 0, 1) := by decide +kernel
theorem d_Rounder_round_149 : decode b_Rounder_round 149 = .ok (.istore 11, 2) := by decide +kernel
theorem d_Rounder_round_151 : decode b_Rounder_round 151 = .ok (.aload_n 0, 1) := by decide +kernel
theorem d_Rounder_round_152 : decode b_Rounder_round 152 = .ok (.getfield 25, 3) := by decide +kernel
theorem d_Rounder_round_155 : decode b_Rounder_round 155 = .ok (.ifCond .eq 24, 3) := by decide +kernel
theorem d_Rounder_round_158 : decode b_Rounder_round 158 = .ok (.iload_n 3, 1) := by decide +kernel
theorem d_Rounder_round_159 : decode b_Rounder_round 159 = .ok (.aload_n 1, 1) := by decide +kernel
theorem d_Rounder_round_160 : decode b_Rounder_round 160 = .ok (.getfield 75, 3) := by decide +kernel
theorem d_Rounder_round_163 : decode b_Rounder_round 163 = .ok (.iload 11, 2) := by decide +kernel
theorem d_Rounder_round_165 : decode b_Rounder_round 165 = .ok (.iload 10, 2) := by decide +kernel
theorem d_Rounder_round_167 : decode b_Rounder_round 167 = .ok (.invokestatic 78, 3) := by decide +kernel
theorem d_Rounder_round_170 : decode b_Rounder_round 170 = .ok (.ifCond .eq 9, 3) := by decide +kernel
theorem d_Rounder_round_173 : decode b_Rounder_round 173 = .ok (.lload 8, 2) := by decide +kernel
theorem d_Rounder_round_175 : decode b_Rounder_round 175 = .ok (.lconst 1, 1) := by decide +kernel
theorem d_Rounder_round_176 : decode b_Rounder_round 176 = .ok (.ladd, 1) := by decide +kernel
theorem d_Rounder_round_177 : decode b_Rounder_round 177 = .ok (.lstore 8, 2) := by decide +kernel
theorem d_Rounder_round_179 : decode b_Rounder_round 179 = .ok (.aload_n 0, 1) := by decide +kernel
theorem d_Rounder_round_180 : decode b_Rounder_round 180 = .ok (.iload 6, 2) := by decide +kernel
theorem d_Rounder_round_182 : decode b_Rounder_round 182 = .ok (.iload 5, 2) := by decide +kernel
theorem d_Rounder_round_184 : decode b_Rounder_round 184 = .ok (.isub, 1) := by decide +kernel
theorem d_Rounder_round_185 : decode b_Rounder_round 185 = .ok (.i2l, 1) := by decide +kernel
theorem d_Rounder_round_186 : decode b_Rounder_round 186 = .ok (.aload_n 2, 1) := by decide +kernel
theorem d_Rounder_round_187 : decode b_Rounder_round 187 = .ok (.getfield 54, 3) := by decide +kernel
theorem d_Rounder_round_190 : decode b_Rounder_round 190 = .ok (.lshl, 1) := by decide +kernel
theorem d_Rounder_round_191 : decode b_Rounder_round 191 = .ok (.lload 8, 2) := by decide +kernel
theorem d_Rounder_round_193 : decode b_Rounder_round 193 = .ok (.ladd, 1) := by decide +kernel
theorem d_Rounder_round_194 : decode b_Rounder_round 194 = .ok (.putfield 21, 3) := by decide +kernel
theorem d_Rounder_round_197 : decode b_Rounder_round 197 = .ok (.return_, 1) := by decide +kernel
theorem d_Rounder_setFraction_0 : decode b_Rounder_setFraction 0 = .ok (.aload_n 1, 1) := by decide +kernel
theorem d_Rounder_setFraction_1 : decode b_Rounder_setFraction 1 = .ok (.getfield 82, 3) := by decide +kernel
theorem d_Rounder_setFraction_4 : decode b_Rounder_setFraction 4 = .ok (.bipush (-90), 2) := by decide +kernel
theorem d_Rounder_setFraction_6 : decode b_Rounder_setFraction 6 = .ok (.invokestatic 58, 3) := by decide +kernel
theorem d_Rounder_setFraction_9 : decode b_Rounder_setFraction 9 = .ok (.bipush 40, 2) := by decide +kernel
theorem d_Rounder_setFraction_11 : decode b_Rounder_setFraction 11 = .ok (.invokestatic 85, 3) := by decide +kernel
theorem d_Rounder_setFraction_14 : decode b_Rounder_setFraction 14 = .ok (.istore_n 2, 1) := by decide +kernel
theorem d_Rounder_setFraction_15 : decode b_Rounder_setFraction 15 = .ok (.aload_n 0, 1) := by decide +kernel
theorem d_Rounder_setFraction_16 : decode b_Rounder_setFraction 16 = .ok (.getfield 12, 3) := by decide +kernel
theorem d_Rounder_setFraction_19 : decode b_Rounder_setFraction 19 = .ok (.aload_n 1, 1) := by decide +kernel
theorem d_Rounder_setFraction_20 : decode b_Rounder_setFraction 20 = .ok (.getfield 32, 3) := by decide +kernel
theorem d_Rounder_setFraction_23 : decode b_Rounder_setFraction 23 = .ok (.invokevirtual 88, 3) := by decide +kernel
theorem d_Rounder_setFraction_26 : decode b_Rounder_setFraction 26 = .ok (.aload_n 0, 1) := by decide +kernel
theorem d_Rounder_setFraction_27 : decode b_Rounder_setFraction 27 = .ok (.getfield 18, 3) := by decide +kernel
theorem d_Rounder_setFraction_30 : decode b_Rounder_setFraction 30 = .ok (.lconst 1, 1) := by decide +kernel
theorem d_Rounder_setFraction_31 : decode b_Rounder_setFraction 31 = .ok (.invokevirtual 92, 3) := by decide +kernel
theorem d_Rounder_setFraction_34 : decode b_Rounder_setFraction 34 = .ok (.iload_n 2, 1) := by decide +kernel
theorem d_Rounder_setFraction_35 : decode b_Rounder_setFraction 35 = .ok (.ifCond .lt 14, 3) := by decide +kernel
theorem d_Rounder_setFraction_38 : decode b_Rounder_setFraction 38 = .ok (.aload_n 0, 1) := by decide +kernel
theorem d_Rounder_setFraction_39 : decode b_Rounder_setFraction 39 = .ok (.getfield 12, 3) := by decide +kernel
theorem d_Rounder_setFraction_42 : decode b_Rounder_setFraction 42 = .ok (.iload_n 2, 1) := by decide +kernel
theorem d_Rounder_setFraction_43 : decode b_Rounder_setFraction 43 = .ok (.invokevirtual 96, 3) := by decide +kernel
theorem d_Rounder_setFraction_46 : decode b_Rounder_setFraction 46 = .ok (.goto 12, 3) := by decide +kernel
theorem d_Rounder_setFraction_49 : decode b_Rounder_setFraction 49 = .ok (.aload_n 0, 1) := by decide +kernel
theorem d_Rounder_setFraction_50 : decode b_Rounder_setFraction 50 = .ok (.getfield 18, 3) := by decide +kernel
theorem d_Rounder_setFraction_53 : decode b_Rounder_setFraction 53 = .ok (.iload_n 2, 1) := by decide +kernel
theorem d_Rounder_setFraction_54 : decode b_Rounder_setFraction 54 = .ok (.ineg, 1) := by decide +kernel
theorem d_Rounder_setFraction_55 : decode b_Rounder_setFraction 55 = .ok (.invokevirtual 96, 3) := by decide +kernel
theorem d_Rounder_setFraction_58 : decode b_Rounder_setFraction 58 = .ok (.return_, 1) := by decide +kernel
theorem d_Rounder_normalise_0 : decode b_Rounder_normalise 0 = .ok (.aload_n 0, 1) := by decide +kernel
theorem d_Rounder_normalise_1 : decode b_Rounder_normalise 1 = .ok (.getfield 12, 3) := by decide +kernel
theorem d_Rounder_normalise_4 : decode b_Rounder_normalise 4 = .ok (.invokevirtual 100, 3) := by decide +kernel
theorem d_Rounder_normalise_7 : decode b_Rounder_normalise 7 = .ok (.aload_n 0, 1) := by decide +kernel
theorem d_Rounder_normalise_8 : decode b_Rounder_normalise 8 = .ok (.getfield 18, 3) := by decide +kernel
theorem d_Rounder_normalise_11 : decode b_Rounder_normalise 11 = .ok (.invokevirtual 100, 3) := by decide +kernel
theorem d_Rounder_normalise_14 : decode b_Rounder_normalise 14 = .ok (.isub, 1) := by decide +kernel
theorem d_Rounder_normalise_15 : decode b_Rounder_normalise 15 = .ok (.istore_n 1, 1) := by decide +kernel
theorem d_Rounder_normalise_16 : decode b_Rounder_normalise 16 = .ok (.iload_n 1, 1) := by decide +kernel
theorem d_Rounder_normalise_17 : decode b_Rounder_normalise 17 = .ok (.ifCond .lt 14, 3) := by decide +kernel
theorem d_Rounder_normalise_20 : decode b_Rounder_normalise 20 = .ok (.aload_n 0, 1) := by decide +kernel
theorem d_Rounder_normalise_21 : decode b_Rounder_normalise 21 = .ok (.getfield 18, 3) := by decide +kernel
theorem d_Rounder_normalise_24 : decode b_Rounder_normalise 24 = .ok (.iload_n 1, 1) := by decide +kernel
theorem d_Rounder_normalise_25 : decode b_Rounder_normalise 25 = .ok (.invokevirtual 103, 3) := by decide +kernel
theorem d_Rounder_normalise_28 : decode b_Rounder_normalise 28 = .ok (.goto 12, 3) := by decide +kernel
theorem d_Rounder_normalise_31 : decode b_Rounder_normalise 31 = .ok (.aload_n 0, 1) := by decide +kernel
theorem d_Rounder_normalise_32 : decode b_Rounder_normalise 32 = .ok (.getfield 12, 3) := by decide +kernel
theorem d_Rounder_normalise_35 : decode b_Rounder_normalise 35 = .ok (.iload_n 1, 1) := by decide +kernel
theorem d_Rounder_normalise_36 : decode b_Rounder_normalise 36 = .ok (.ineg, 1) := by decide +kernel
theorem d_Rounder_normalise_37 : decode b_Rounder_normalise 37 = .ok (.invokevirtual 103, 3) := by decide +kernel
theorem d_Rounder_normalise_40 : decode b_Rounder_normalise 40 = .ok (.aload_n 0, 1) := by decide +kernel
theorem d_Rounder_normalise_41 : decode b_Rounder_normalise 41 = .ok (.getfield 12, 3) := by decide +kernel
theorem d_Rounder_normalise_44 : decode b_Rounder_normalise 44 = .ok (.aload_n 0, 1) := by decide +kernel
theorem d_Rounder_normalise_45 : decode b_Rounder_normalise 45 = .ok (.getfield 18, 3) := by decide +kernel
theorem d_Rounder_normalise_48 : decode b_Rounder_normalise 48 = .ok (.invokevirtual 68, 3) := by decide +kernel
theorem d_Rounder_normalise_51 : decode b_Rounder_normalise 51 = .ok (.ifCond .ge 15, 3) := by decide +kernel
theorem d_Rounder_normalise_54 : decode b_Rounder_normalise 54 = .ok (.aload_n 0, 1) := by decide +kernel
theorem d_Rounder_normalise_55 : decode b_Rounder_normalise 55 = .ok (.getfield 12, 3) := by decide +kernel
theorem d_Rounder_normalise_58 : decode b_Rounder_normalise 58 = .ok (.iconst 2, 1) := by decide +kernel
theorem d_Rounder_normalise_59 : decode b_Rounder_normalise 59 = .ok (.iconst 0, 1) := by decide +kernel
theorem d_Rounder_normalise_60 : decode b_Rounder_normalise 60 = .ok (.invokevirtual 106, 3) := by decide +kernel
theorem d_Rounder_normalise_63 : decode b_Rounder_normalise 63 = .ok (.iinc 1 (-1), 3) := by decide +kernel
theorem d_Rounder_normalise_66 : decode b_Rounder_normalise 66 = .ok (.iload_n 1, 1) := by decide +kernel
theorem d_Rounder_normalise_67 : decode b_Rounder_normalise 67 = .ok (.ireturn, 1) := by decide +kernel
theorem d_Rounder_takeBits_0 : decode b_Rounder_takeBits 0 = .ok (.lconst 0, 1) := by decide +kernel
theorem d_Rounder_takeBits_1 : decode b_Rounder_takeBits 1 = .ok (.lstore_n 2, 1) := by decide +kernel
theorem d_Rounder_takeBits_2 : decode b_Rounder_takeBits 2 = .ok (.iconst 0, 1) := by decide +kernel
theorem d_Rounder_takeBits_3 : decode b_Rounder_takeBits 3 = .ok (.istore 4, 2) := by decide +kernel
theorem d_Rounder_takeBits_5 : decode b_Rounder_takeBits 5 = .ok (.iload 4, 2) := by decide +kernel
theorem d_Rounder_takeBits_7 : decode b_Rounder_takeBits 7 = .ok (.iload_n 1, 1) := by decide +kernel
theorem d_Rounder_takeBits_8 : decode b_Rounder_takeBits 8 = .ok (.if_icmp .ge 51, 3) := by decide +kernel
theorem d_Rounder_takeBits_11 : decode b_Rounder_takeBits 11 = .ok (.lload_n 2, 1) := by decide +kernel
theorem d_Rounder_takeBits_12 : decode b_Rounder_takeBits 12 = .ok (.iconst 1, 1) := by decide +kernel
theorem d_Rounder_takeBits_13 : decode b_Rounder_takeBits 13 = .ok (.lshl, 1) := by decide +kernel
theorem d_Rounder_takeBits_14 : decode b_Rounder_takeBits 14 = .ok (.lstore_n 2, 1) := by decide +kernel
theorem d_Rounder_takeBits_15 : decode b_Rounder_takeBits 15 = .ok (.aload_n 0, 1) := by decide +kernel
theorem d_Rounder_takeBits_16 : decode b_Rounder_takeBits 16 = .ok (.getfield 12, 3) := by decide +kernel
theorem d_Rounder_takeBits_19 : decode b_Rounder_takeBits 19 = .ok (.aload_n 0, 1) := by decide +kernel
theorem d_Rounder_takeBits_20 : decode b_Rounder_takeBits 20 = .ok (.getfield 18, 3) := by decide +kernel
theorem d_Rounder_takeBits_23 : decode b_Rounder_takeBits 23 = .ok (.invokevirtual 68, 3) := by decide +kernel
theorem d_Rounder_takeBits_26 : decode b_Rounder_takeBits 26 = .ok (.ifCond .lt 18, 3) := by decide +kernel
theorem d_Rounder_takeBits_29 : decode b_Rounder_takeBits 29 = .ok (.aload_n 0, 1) := by decide +kernel
theorem d_Rounder_takeBits_30 : decode b_Rounder_takeBits 30 = .ok (.getfield 12, 3) := by decide +kernel
theorem d_Rounder_takeBits_33 : decode b_Rounder_takeBits 33 = .ok (.aload_n 0, 1) := by decide +kernel
theorem d_Rounder_takeBits_34 : decode b_Rounder_takeBits 34 = .ok (.getfield 18, 3) := by decide +kernel
theorem d_Rounder_takeBits_37 : decode b_Rounder_takeBits 37 = .ok (.invokevirtual 110, 3) := by decide +kernel
theorem d_Rounder_takeBits_40 : decode b_Rounder_takeBits 40 = .ok (.lload_n 2, 1) := by decide +kernel
theorem d_Rounder_takeBits_41 : decode b_Rounder_takeBits 41 = .ok (.lconst 1, 1) := by decide +kernel
theorem d_Rounder_takeBits_42 : decode b_Rounder_takeBits 42 = .ok (.ladd, 1) := by decide +kernel
theorem d_Rounder_takeBits_43 : decode b_Rounder_takeBits 43 = .ok (.lstore_n 2, 1) := by decide +kernel
theorem d_Rounder_takeBits_44 : decode b_Rounder_takeBits 44 = .ok (.aload_n 0, 1) := by decide +kernel
theorem d_Rounder_takeBits_45 : decode b_Rounder_takeBits 45 = .ok (.getfield 12, 3) := by decide +kernel
theorem d_Rounder_takeBits_48 : decode b_Rounder_takeBits 48 = .ok (.iconst 2, 1) := by decide +kernel
theorem d_Rounder_takeBits_49 : decode b_Rounder_takeBits 49 = .ok (.iconst 0, 1) := by decide +kernel
theorem d_Rounder_takeBits_50 : decode b_Rounder_takeBits 50 = .ok (.invokevirtual 106, 3) := by decide +kernel
theorem d_Rounder_takeBits_53 : decode b_Rounder_takeBits 53 = .ok (.iinc 4 1, 3) := by decide +kernel
theorem d_Rounder_takeBits_56 : decode b_Rounder_takeBits 56 = .ok (.goto (-51), 3) := by decide +kernel
theorem d_Rounder_takeBits_59 : decode b_Rounder_takeBits 59 = .ok (.lload_n 2, 1) := by decide +kernel
theorem d_Rounder_takeBits_60 : decode b_Rounder_takeBits 60 = .ok (.lreturn, 1) := by decide +kernel
theorem d_Rounder_goesFarther_0 : decode b_Rounder_goesFarther 0 = .ok (.iload_n 0, 1) := by decide +kernel
theorem d_Rounder_goesFarther_1 : decode b_Rounder_goesFarther 1 = .ok (.tableswitch 55 1 4 #[31, 33, 43, 45], 31) := by decide +kernel
theorem d_Rounder_goesFarther_32 : decode b_Rounder_goesFarther 32 = .ok (.iconst 0, 1) := by decide +kernel
theorem d_Rounder_goesFarther_33 : decode b_Rounder_goesFarther 33 = .ok (.ireturn, 1) := by decide +kernel
theorem d_Rounder_goesFarther_34 : decode b_Rounder_goesFarther 34 = .ok (.iload_n 1, 1) := by decide +kernel
theorem d_Rounder_goesFarther_35 : decode b_Rounder_goesFarther 35 = .ok (.ifCond .ne 7, 3) := by decide +kernel
theorem d_Rounder_goesFarther_38 : decode b_Rounder_goesFarther 38 = .ok (.iconst 1, 1) := by decide +kernel
theorem d_Rounder_goesFarther_39 : decode b_Rounder_goesFarther 39 = .ok (.goto 4, 3) := by decide +kernel
theorem d_Rounder_goesFarther_42 : decode b_Rounder_goesFarther 42 = .ok (.iconst 0, 1) := by decide +kernel
theorem d_Rounder_goesFarther_43 : decode b_Rounder_goesFarther 43 = .ok (.ireturn, 1) := by decide +kernel
theorem d_Rounder_goesFarther_44 : decode b_Rounder_goesFarther 44 = .ok (.iload_n 1, 1) := by decide +kernel
theorem d_Rounder_goesFarther_45 : decode b_Rounder_goesFarther 45 = .ok (.ireturn, 1) := by decide +kernel
theorem d_Rounder_goesFarther_46 : decode b_Rounder_goesFarther 46 = .ok (.iload_n 3, 1) := by decide +kernel
theorem d_Rounder_goesFarther_47 : decode b_Rounder_goesFarther 47 = .ok (.ifCond .lt 7, 3) := by decide +kernel
theorem d_Rounder_goesFarther_50 : decode b_Rounder_goesFarther 50 = .ok (.iconst 1, 1) := by decide +kernel
theorem d_Rounder_goesFarther_51 : decode b_Rounder_goesFarther 51 = .ok (.goto 4, 3) := by decide +kernel
theorem d_Rounder_goesFarther_54 : decode b_Rounder_goesFarther 54 = .ok (.iconst 0, 1) := by decide +kernel
theorem d_Rounder_goesFarther_55 : decode b_Rounder_goesFarther 55 = .ok (.ireturn, 1) := by decide +kernel
theorem d_Rounder_goesFarther_56 : decode b_Rounder_goesFarther 56 = .ok (.iload_n 3, 1) := by decide +kernel
theorem d_Rounder_goesFarther_57 : decode b_Rounder_goesFarther 57 = .ok (.ifCond .gt 11, 3) := by decide +kernel
theorem d_Rounder_goesFarther_60 : decode b_Rounder_goesFarther 60 = .ok (.iload_n 3, 1) := by decide +kernel
theorem d_Rounder_goesFarther_61 : decode b_Rounder_goesFarther 61 = .ok (.ifCond .ne 11, 3) := by decide +kernel
theorem d_Rounder_goesFarther_64 : decode b_Rounder_goesFarther 64 = .ok (.iload_n 2, 1) := by decide +kernel
theorem d_Rounder_goesFarther_65 : decode b_Rounder_goesFarther 65 = .ok (.ifCond .eq 7, 3) := by decide +kernel
theorem d_Rounder_goesFarther_68 : decode b_Rounder_goesFarther 68 = .ok (.iconst 1, 1) := by decide +kernel
theorem d_Rounder_goesFarther_69 : decode b_Rounder_goesFarther 69 = .ok (.goto 4, 3) := by decide +kernel
theorem d_Rounder_goesFarther_72 : decode b_Rounder_goesFarther 72 = .ok (.iconst 0, 1) := by decide +kernel
theorem d_Rounder_goesFarther_73 : decode b_Rounder_goesFarther 73 = .ok (.ireturn, 1) := by decide +kernel
theorem d_Finder_init_0 : decode b_Finder_init 0 = .ok (.aload_n 0, 1) := by decide +kernel
theorem d_Finder_init_1 : decode b_Finder_init 1 = .ok (.invokespecial 1, 3) := by decide +kernel
theorem d_Finder_init_4 : decode b_Finder_init 4 = .ok (.aload_n 0, 1) := by decide +kernel
theorem d_Finder_init_5 : decode b_Finder_init 5 = .ok (.new 7, 3) := by decide +kernel
theorem d_Finder_init_8 : decode b_Finder_init 8 = .ok (.dup, 1) := by decide +kernel
theorem d_Finder_init_9 : decode b_Finder_init 9 = .ok (.invokespecial 9, 3) := by decide +kernel
theorem d_Finder_init_12 : decode b_Finder_init 12 = .ok (.putfield 10, 3) := by decide +kernel
theorem d_Finder_init_15 : decode b_Finder_init 15 = .ok (.aload_n 0, 1) := by decide +kernel
theorem d_Finder_init_16 : decode b_Finder_init 16 = .ok (.new 7, 3) := by decide +kernel
theorem d_Finder_init_19 : decode b_Finder_init 19 = .ok (.dup, 1) := by decide +kernel
theorem d_Finder_init_20 : decode b_Finder_init 20 = .ok (.invokespecial 9, 3) := by decide +kernel
theorem d_Finder_init_23 : decode b_Finder_init 23 = .ok (.putfield 16, 3) := by decide +kernel
theorem d_Finder_init_26 : decode b_Finder_init 26 = .ok (.aload_n 0, 1) := by decide +kernel
theorem d_Finder_init_27 : decode b_Finder_init 27 = .ok (.new 7, 3) := by decide +kernel
theorem d_Finder_init_30 : decode b_Finder_init 30 = .ok (.dup, 1) := by decide +kernel
theorem d_Finder_init_31 : decode b_Finder_init 31 = .ok (.invokespecial 9, 3) := by decide +kernel
theorem d_Finder_init_34 : decode b_Finder_init 34 = .ok (.putfield 19, 3) := by decide +kernel
theorem d_Finder_init_37 : decode b_Finder_init 37 = .ok (.aload_n 0, 1) := by decide +kernel
theorem d_Finder_init_38 : decode b_Finder_init 38 = .ok (.new 7, 3) := by decide +kernel
theorem d_Finder_init_41 : decode b_Finder_init 41 = .ok (.dup, 1) := by decide +kernel
theorem d_Finder_init_42 : decode b_Finder_init 42 = .ok (.invokespecial 9, 3) := by decide +kernel
theorem d_Finder_init_45 : decode b_Finder_init 45 = .ok (.putfield 22, 3) := by decide +kernel
theorem d_Finder_init_48 : decode b_Finder_init 48 = .ok (.aload_n 0, 1) := by decide +kernel
theorem d_Finder_init_49 : decode b_Finder_init 49 = .ok (.new 7, 3) := by decide +kernel
theorem d_Finder_init_52 : decode b_Finder_init 52 = .ok (.dup, 1) := by decide +kernel
theorem d_Finder_init_53 : decode b_Finder_init 53 = .ok (.invokespecial 9, 3) := by decide +kernel
theorem d_Finder_init_56 : decode b_Finder_init 56 = .ok (.putfield 25, 3) := by decide +kernel
theorem d_Finder_init_59 : decode b_Finder_init 59 = .ok (.aload_n 0, 1) := by decide +kernel
theorem d_Finder_init_60 : decode b_Finder_init 60 = .ok (.iconst 0, 1) := by decide +kernel
theorem d_Finder_init_61 : decode b_Finder_init 61 = .ok (.putfield 28, 3) := by decide +kernel
theorem d_Finder_init_64 : decode b_Finder_init 64 = .ok (.aload_n 0, 1) := by decide +kernel
theorem d_Finder_init_65 : decode b_Finder_init 65 = .ok (.lconst 0, 1) := by decide +kernel
theorem d_Finder_init_66 : decode b_Finder_init 66 = .ok (.putfield 32, 3) := by decide +kernel
theorem d_Finder_init_69 : decode b_Finder_init 69 = .ok (.aload_n 0, 1) := by decide +kernel
theorem d_Finder_init_70 : decode b_Finder_init 70 = .ok (.iconst 0, 1) := by decide +kernel
theorem d_Finder_init_71 : decode b_Finder_init 71 = .ok (.putfield 36, 3) := by decide +kernel
theorem d_Finder_init_74 : decode b_Finder_init 74 = .ok (.aload_n 0, 1) := by decide +kernel
theorem d_Finder_init_75 : decode b_Finder_init 75 = .ok (.iconst 0, 1) := by decide +kernel
theorem d_Finder_init_76 : decode b_Finder_init 76 = .ok (.putfield 40, 3) := by decide +kernel
theorem d_Finder_init_79 : decode b_Finder_init 79 = .ok (.return_, 1) := by decide +kernel
theorem d_Finder_find_0 : decode b_Finder_find 0 = .ok (.aload_n 0, 1) := by decide +kernel
theorem d_Finder_find_1 : decode b_Finder_find 1 = .ok (.lload_n 1, 1) := by decide +kernel
theorem d_Finder_find_2 : decode b_Finder_find 2 = .ok (.aload_n 3, 1) := by decide +kernel
theorem d_Finder_find_3 : decode b_Finder_find 3 = .ok (.invokevirtual 43, 3) := by decide +kernel
theorem d_Finder_find_6 : decode b_Finder_find 6 = .ok (.aload_n 0, 1) := by decide +kernel
theorem d_Finder_find_7 : decode b_Finder_find 7 = .ok (.lload_n 1, 1) := by decide +kernel
theorem d_Finder_find_8 : decode b_Finder_find 8 = .ok (.aload_n 3, 1) := by decide +kernel
theorem d_Finder_find_9 : decode b_Finder_find 9 = .ok (.invokevirtual 47, 3) := by decide +kernel
theorem d_Finder_find_12 : decode b_Finder_find 12 = .ok (.aload_n 0, 1) := by decide +kernel
theorem d_Finder_find_13 : decode b_Finder_find 13 = .ok (.lconst 0, 1) := by decide +kernel
theorem d_Finder_find_14 : decode b_Finder_find 14 = .ok (.putfield 32, 3) := by decide +kernel
theorem d_Finder_find_17 : decode b_Finder_find 17 = .ok (.aload_n 0, 1) := by decide +kernel
theorem d_Finder_find_18 : decode b_Finder_find 18 = .ok (.iconst 0, 1) := by decide +kernel
theorem d_Finder_find_19 : decode b_Finder_find 19 = .ok (.putfield 36, 3) := by decide +kernel
theorem d_Finder_find_22 : decode b_Finder_find 22 = .ok (.lconst 1, 1) := by decide +kernel
theorem d_Finder_find_23 : decode b_Finder_find 23 = .ok (.lstore 4, 2) := by decide +kernel
theorem d_Finder_find_25 : decode b_Finder_find 25 = .ok (.iconst 0, 1) := by decide +kernel
theorem d_Finder_find_26 : decode b_Finder_find 26 = .ok (.istore 6, 2) := by decide +kernel
theorem d_Finder_find_28 : decode b_Finder_find 28 = .ok (.iload 6, 2) := by decide +kernel
theorem d_Finder_find_30 : decode b_Finder_find 30 = .ok (.ifCond .ne 68, 3) := by decide +kernel
theorem d_Finder_find_33 : decode b_Finder_find 33 = .ok (.aload_n 0, 1) := by decide +kernel
theorem d_Finder_find_34 : decode b_Finder_find 34 = .ok (.getfield 36, 3) := by decide +kernel
theorem d_Finder_find_37 : decode b_Finder_find 37 = .ok (.bipush 17, 2) := by decide +kernel
theorem d_Finder_find_39 : decode b_Finder_find 39 = .ok (.if_icmp .ge 59, 3) := by decide +kernel
theorem d_Finder_find_42 : decode b_Finder_find 42 = .ok (.aload_n 0, 1) := by decide +kernel
theorem d_Finder_find_43 : decode b_Finder_find 43 = .ok (.getfield 36, 3) := by decide +kernel
theorem d_Finder_find_46 : decode b_Finder_find 46 = .ok (.ifCond .le 7, 3) := by decide +kernel
theorem d_Finder_find_49 : decode b_Finder_find 49 = .ok (.aload_n 0, 1) := by decide +kernel
theorem d_Finder_find_50 : decode b_Finder_find 50 = .ok (.invokevirtual 50, 3) := by decide +kernel
theorem d_Finder_find_53 : decode b_Finder_find 53 = .ok (.aload_n 0, 1) := by decide +kernel
theorem d_Finder_find_54 : decode b_Finder_find 54 = .ok (.aload_n 0, 1) := by decide +kernel
theorem d_Finder_find_55 : decode b_Finder_find 55 = .ok (.getfield 32, 3) := by decide +kernel
theorem d_Finder_find_58 : decode b_Finder_find 58 = .ok (.ldc2_w 53, 3) := by decide +kernel
theorem d_Finder_find_61 : decode b_Finder_find 61 = .ok (.lmul, 1) := by decide +kernel
theorem d_Finder_find_62 : decode b_Finder_find 62 = .ok (.aload_n 0, 1) := by decide +kernel
theorem d_Finder_find_63 : decode b_Finder_find 63 = .ok (.invokevirtual 55, 3) := by decide +kernel
theorem d_Finder_find_66 : decode b_Finder_find 66 = .ok (.i2l, 1) := by decide +kernel
theorem d_Finder_find_67 : decode b_Finder_find 67 = .ok (.ladd, 1) := by decide +kernel
theorem d_Finder_find_68 : decode b_Finder_find 68 = .ok (.putfield 32, 3) := by decide +kernel
theorem d_Finder_find_71 : decode b_Finder_find 71 = .ok (.lload 4, 2) := by decide +kernel
theorem d_Finder_find_73 : decode b_Finder_find 73 = .ok (.ldc2_w 53, 3) := by decide +kernel
theorem d_Finder_find_76 : decode b_Finder_find 76 = .ok (.lmul, 1) := by decide +kernel
theorem d_Finder_find_77 : decode b_Finder_find 77 = .ok (.lstore 4, 2) := by decide +kernel
theorem d_Finder_find_79 : decode b_Finder_find 79 = .ok (.aload_n 0, 1) := by decide +kernel
theorem d_Finder_find_80 : decode b_Finder_find 80 = .ok (.dup, 1) := by decide +kernel
theorem d_Finder_find_81 : decode b_Finder_find 81 = .ok (.getfield 36, 3) := by decide +kernel
theorem d_Finder_find_84 : decode b_Finder_find 84 = .ok (.iconst 1, 1) := by decide +kernel
theorem d_Finder_find_85 : decode b_Finder_find 85 = .ok (.iadd, 1) := by decide +kernel
theorem d_Finder_find_86 : decode b_Finder_find 86 = .ok (.putfield 36, 3) := by decide +kernel
theorem d_Finder_find_89 : decode b_Finder_find 89 = .ok (.aload_n 0, 1) := by decide +kernel
theorem d_Finder_find_90 : decode b_Finder_find 90 = .ok (.invokevirtual 59, 3) := by decide +kernel
theorem d_Finder_find_93 : decode b_Finder_find 93 = .ok (.istore 6, 2) := by decide +kernel
theorem d_Finder_find_95 : decode b_Finder_find 95 = .ok (.goto (-67), 3) := by decide +kernel
theorem d_Finder_find_98 : decode b_Finder_find 98 = .ok (.aload_n 0, 1) := by decide +kernel
theorem d_Finder_find_99 : decode b_Finder_find 99 = .ok (.getfield 32, 3) := by decide +kernel
theorem d_Finder_find_102 : decode b_Finder_find 102 = .ok (.lload 4, 2) := by decide +kernel
theorem d_Finder_find_104 : decode b_Finder_find 104 = .ok (.lcmp, 1) := by decide +kernel
theorem d_Finder_find_105 : decode b_Finder_find 105 = .ok (.ifCond .lt 23, 3) := by decide +kernel
theorem d_Finder_find_108 : decode b_Finder_find 108 = .ok (.aload_n 0, 1) := by decide +kernel
theorem d_Finder_find_109 : decode b_Finder_find 109 = .ok (.lload 4, 2) := by decide +kernel
theorem d_Finder_find_111 : decode b_Finder_find 111 = .ok (.ldc2_w 53, 3) := by decide +kernel
theorem d_Finder_find_114 : decode b_Finder_find 114 = .ok (.ldiv, 1) := by decide +kernel
theorem d_Finder_find_115 : decode b_Finder_find 115 = .ok (.putfield 32, 3) := by decide +kernel
theorem d_Finder_find_118 : decode b_Finder_find 118 = .ok (.aload_n 0, 1) := by decide +kernel
theorem d_Finder_find_119 : decode b_Finder_find 119 = .ok (.dup, 1) := by decide +kernel
theorem d_Finder_find_120 : decode b_Finder_find 120 = .ok (.getfield 40, 3) := by decide +kernel
theorem d_Finder_find_123 : decode b_Finder_find 123 = .ok (.iconst 1, 1) := by decide +kernel
theorem d_Finder_find_124 : decode b_Finder_find 124 = .ok (.iadd, 1) := by decide +kernel
theorem d_Finder_find_125 : decode b_Finder_find 125 = .ok (.putfield 40, 3) := by decide +kernel
theorem d_Finder_find_128 : decode b_Finder_find 128 = .ok (.return_, 1) := by decide +kernel
theorem d_Finder_setRange_0 : decode b_Finder_setRange 0 = .ok (.aload_n 3, 1) := by decide +kernel
theorem d_Finder_setRange_1 : decode b_Finder_setRange 1 = .ok (.lload_n 1, 1) := by decide +kernel
theorem d_Finder_setRange_2 : decode b_Finder_setRange 2 = .ok (.invokevirtual 63, 3) := by decide +kernel
theorem d_Finder_setRange_5 : decode b_Finder_setRange 5 = .ok (.lconst 0, 1) := by decide +kernel
theorem d_Finder_setRange_6 : decode b_Finder_setRange 6 = .ok (.lcmp, 1) := by decide +kernel
theorem d_Finder_setRange_7 : decode b_Finder_setRange 7 = .ok (.ifCond .ne 16, 3) := by decide +kernel
theorem d_Finder_setRange_10 : decode b_Finder_setRange 10 = .ok (.aload_n 3, 1) := by decide +kernel
theorem d_Finder_setRange_11 : decode b_Finder_setRange 11 = .ok (.lload_n 1, 1) := by decide +kernel
theorem d_Finder_setRange_12 : decode b_Finder_setRange 12 = .ok (.invokevirtual 69, 3) := by decide +kernel
theorem d_Finder_setRange_15 : decode b_Finder_setRange 15 = .ok (.iconst 1, 1) := by decide +kernel
theorem d_Finder_setRange_16 : decode b_Finder_setRange 16 = .ok (.if_icmp .le 7, 3) := by decide +kernel
theorem d_Finder_setRange_19 : decode b_Finder_setRange 19 = .ok (.iconst 1, 1) := by decide +kernel
theorem d_Finder_setRange_20 : decode b_Finder_setRange 20 = .ok (.goto 4, 3) := by decide +kernel
theorem d_Finder_setRange_23 : decode b_Finder_setRange 23 = .ok (.iconst 0, 1) := by decide +kernel
theorem d_Finder_setRange_24 : decode b_Finder_setRange 24 = .ok (.istore 4, 2) := by decide +kernel
theorem d_Finder_setRange_26 : decode b_Finder_setRange 26 = .ok (.aload_n 0, 1) := by decide +kernel
theorem d_Finder_setRange_27 : decode b_Finder_setRange 27 = .ok (.lload_n 1, 1) := by decide +kernel
theorem d_Finder_setRange_28 : decode b_Finder_setRange 28 = .ok (.lconst 1, 1) := by decide +kernel
theorem d_Finder_setRange_29 : decode b_Finder_setRange 29 = .ok (.land, 1) := by decide +kernel
theorem d_Finder_setRange_30 : decode b_Finder_setRange 30 = .ok (.lconst 0, 1) := by decide +kernel
theorem d_Finder_setRange_31 : decode b_Finder_setRange 31 = .ok (.lcmp, 1) := by decide +kernel
theorem d_Finder_setRange_32 : decode b_Finder_setRange 32 = .ok (.ifCond .ne 7, 3) := by decide +kernel
theorem d_Finder_setRange_35 : decode b_Finder_setRange 35 = .ok (.iconst 1, 1) := by decide +kernel
theorem d_Finder_setRange_36 : decode b_Finder_setRange 36 = .ok (.goto 4, 3) := by decide +kernel
theorem d_Finder_setRange_39 : decode b_Finder_setRange 39 = .ok (.iconst 0, 1) := by decide +kernel
theorem d_Finder_setRange_40 : decode b_Finder_setRange 40 = .ok (.putfield 28, 3) := by decide +kernel
theorem d_Finder_setRange_43 : decode b_Finder_setRange 43 = .ok (.aload_n 0, 1) := by decide +kernel
theorem d_Finder_setRange_44 : decode b_Finder_setRange 44 = .ok (.getfield 10, 3) := by decide +kernel
theorem d_Finder_setRange_47 : decode b_Finder_setRange 47 = .ok (.aload_n 3, 1) := by decide +kernel
theorem d_Finder_setRange_48 : decode b_Finder_setRange 48 = .ok (.lload_n 1, 1) := by decide +kernel
theorem d_Finder_setRange_49 : decode b_Finder_setRange 49 = .ok (.invokevirtual 73, 3) := by decide +kernel
theorem d_Finder_setRange_52 : decode b_Finder_setRange 52 = .ok (.ldc2_w 76, 3) := by decide +kernel
theorem d_Finder_setRange_55 : decode b_Finder_setRange 55 = .ok (.lmul, 1) := by decide +kernel
theorem d_Finder_setRange_56 : decode b_Finder_setRange 56 = .ok (.invokevirtual 78, 3) := by decide +kernel
theorem d_Finder_setRange_59 : decode b_Finder_setRange 59 = .ok (.aload_n 0, 1) := by decide +kernel
theorem d_Finder_setRange_60 : decode b_Finder_setRange 60 = .ok (.getfield 22, 3) := by decide +kernel
theorem d_Finder_setRange_63 : decode b_Finder_setRange 63 = .ok (.ldc2_w 82, 3) := by decide +kernel
theorem d_Finder_setRange_66 : decode b_Finder_setRange 66 = .ok (.invokevirtual 78, 3) := by decide +kernel
theorem d_Finder_setRange_69 : decode b_Finder_setRange 69 = .ok (.aload_n 0, 1) := by decide +kernel
theorem d_Finder_setRange_70 : decode b_Finder_setRange 70 = .ok (.getfield 19, 3) := by decide +kernel
theorem d_Finder_setRange_73 : decode b_Finder_setRange 73 = .ok (.iload 4, 2) := by decide +kernel
theorem d_Finder_setRange_75 : decode b_Finder_setRange 75 = .ok (.ifCond .eq 7, 3) := by decide +kernel
theorem d_Finder_setRange_78 : decode b_Finder_setRange 78 = .ok (.lconst 1, 1) := by decide +kernel
theorem d_Finder_setRange_79 : decode b_Finder_setRange 79 = .ok (.goto 6, 3) := by decide +kernel
theorem d_Finder_setRange_82 : decode b_Finder_setRange 82 = .ok (.ldc2_w 82, 3) := by decide +kernel
theorem d_Finder_setRange_85 : decode b_Finder_setRange 85 = .ok (.invokevirtual 78, 3) := by decide +kernel
theorem d_Finder_setRange_88 : decode b_Finder_setRange 88 = .ok (.aload_n 0, 1) := by decide +kernel
theorem d_Finder_setRange_89 : decode b_Finder_setRange 89 = .ok (.getfield 16, 3) := by decide +kernel
theorem d_Finder_setRange_92 : decode b_Finder_setRange 92 = .ok (.lconst 1, 1) := by decide +kernel
theorem d_Finder_setRange_93 : decode b_Finder_setRange 93 = .ok (.invokevirtual 78, 3) := by decide +kernel
theorem d_Finder_setRange_96 : decode b_Finder_setRange 96 = .ok (.aload_n 3, 1) := by decide +kernel
theorem d_Finder_setRange_97 : decode b_Finder_setRange 97 = .ok (.lload_n 1, 1) := by decide +kernel
theorem d_Finder_setRange_98 : decode b_Finder_setRange 98 = .ok (.invokevirtual 84, 3) := by decide +kernel
theorem d_Finder_setRange_101 : decode b_Finder_setRange 101 = .ok (.iconst 2, 1) := by decide +kernel
theorem d_Finder_setRange_102 : decode b_Finder_setRange 102 = .ok (.isub, 1) := by decide +kernel
theorem d_Finder_setRange_103 : decode b_Finder_setRange 103 = .ok (.istore 5, 2) := by decide +kernel
theorem d_Finder_setRange_105 : decode b_Finder_setRange 105 = .ok (.iload 5, 2) := by decide +kernel
theorem d_Finder_setRange_107 : decode b_Finder_setRange 107 = .ok (.ifCond .lt 33, 3) := by decide +kernel
theorem d_Finder_setRange_110 : decode b_Finder_setRange 110 = .ok (.aload_n 0, 1) := by decide +kernel
theorem d_Finder_setRange_111 : decode b_Finder_setRange 111 = .ok (.getfield 10, 3) := by decide +kernel
theorem d_Finder_setRange_114 : decode b_Finder_setRange 114 = .ok (.iload 5, 2) := by decide +kernel
theorem d_Finder_setRange_116 : decode b_Finder_setRange 116 = .ok (.invokevirtual 87, 3) := by decide +kernel
theorem d_Finder_setRange_119 : decode b_Finder_setRange 119 = .ok (.aload_n 0, 1) := by decide +kernel
theorem d_Finder_setRange_120 : decode b_Finder_setRange 120 = .ok (.getfield 22, 3) := by decide +kernel
theorem d_Finder_setRange_123 : decode b_Finder_setRange 123 = .ok (.iload 5, 2) := by decide +kernel
theorem d_Finder_setRange_125 : decode b_Finder_setRange 125 = .ok (.invokevirtual 87, 3) := by decide +kernel
theorem d_Finder_setRange_128 : decode b_Finder_setRange 128 = .ok (.aload_n 0, 1) := by decide +kernel
theorem d_Finder_setRange_129 : decode b_Finder_setRange 129 = .ok (.getfield 19, 3) := by decide +kernel
theorem d_Finder_setRange_132 : decode b_Finder_setRange 132 = .ok (.iload 5, 2) := by decide +kernel
theorem d_Finder_setRange_134 : decode b_Finder_setRange 134 = .ok (.invokevirtual 87, 3) := by decide +kernel
theorem d_Finder_setRange_137 : decode b_Finder_setRange 137 = .ok (.goto 13, 3) := by decide +kernel
theorem d_Finder_setRange_140 : decode b_Finder_setRange 140 = .ok (.aload_n 0, 1) := by decide +kernel
theorem d_Finder_setRange_141 : decode b_Finder_setRange 141 = .ok (.getfield 16, 3) := by decide +kernel
theorem d_Finder_setRange_144 : decode b_Finder_setRange 144 = .ok (.iload 5, 2) := by decide +kernel
theorem d_Finder_setRange_146 : decode b_Finder_setRange 146 = .ok (.ineg, 1) := by decide +kernel
theorem d_Finder_setRange_147 : decode b_Finder_setRange 147 = .ok (.invokevirtual 87, 3) := by decide +kernel
theorem d_Finder_setRange_150 : decode b_Finder_setRange 150 = .ok (.return_, 1) := by decide +kernel
theorem d_Finder_setPower_0 : decode b_Finder_setPower 0 = .ok (.aload_n 3, 1) := by decide +kernel
theorem d_Finder_setPower_1 : decode b_Finder_setPower 1 = .ok (.lload_n 1, 1) := by decide +kernel
theorem d_Finder_setPower_2 : decode b_Finder_setPower 2 = .ok (.invokevirtual 84, 3) := by decide +kernel
theorem d_Finder_setPower_5 : decode b_Finder_setPower 5 = .ok (.bipush 63, 2) := by decide +kernel
theorem d_Finder_setPower_7 : decode b_Finder_setPower 7 = .ok (.iadd, 1) := by decide +kernel
theorem d_Finder_setPower_8 : decode b_Finder_setPower 8 = .ok (.aload_n 3, 1) := by decide +kernel
theorem d_Finder_setPower_9 : decode b_Finder_setPower 9 = .ok (.lload_n 1, 1) := by decide +kernel
theorem d_Finder_setPower_10 : decode b_Finder_setPower 10 = .ok (.invokevirtual 73, 3) := by decide +kernel
theorem d_Finder_setPower_13 : decode b_Finder_setPower 13 = .ok (.invokestatic 91, 3) := by decide +kernel
theorem d_Finder_setPower_16 : decode b_Finder_setPower 16 = .ok (.isub, 1) := by decide +kernel
theorem d_Finder_setPower_17 : decode b_Finder_setPower 17 = .ok (.istore 4, 2) := by decide +kernel
theorem d_Finder_setPower_19 : decode b_Finder_setPower 19 = .ok (.aload_n 0, 1) := by decide +kernel
theorem d_Finder_setPower_20 : decode b_Finder_setPower 20 = .ok (.iload 4, 2) := by decide +kernel
theorem d_Finder_setPower_22 : decode b_Finder_setPower 22 = .ok (.sipush 30103, 3) := by decide +kernel
theorem d_Finder_setPower_25 : decode b_Finder_setPower 25 = .ok (.imul, 1) := by decide +kernel
theorem d_Finder_setPower_26 : decode b_Finder_setPower 26 = .ok (.ldc 96, 2) := by decide +kernel
theorem d_Finder_setPower_28 : decode b_Finder_setPower 28 = .ok (.invokestatic 97, 3) := by decide +kernel
theorem d_Finder_setPower_31 : decode b_Finder_setPower 31 = .ok (.putfield 40, 3) := by decide +kernel
theorem d_Finder_setPower_34 : decode b_Finder_setPower 34 = .ok (.aload_n 0, 1) := by decide +kernel
theorem d_Finder_setPower_35 : decode b_Finder_setPower 35 = .ok (.getfield 40, 3) := by decide +kernel
theorem d_Finder_setPower_38 : decode b_Finder_setPower 38 = .ok (.ifCond .lt 17, 3) := by decide +kernel
theorem d_Finder_setPower_41 : decode b_Finder_setPower 41 = .ok (.aload_n 0, 1) := by decide +kernel
theorem d_Finder_setPower_42 : decode b_Finder_setPower 42 = .ok (.getfield 16, 3) := by decide +kernel
theorem d_Finder_setPower_45 : decode b_Finder_setPower 45 = .ok (.aload_n 0, 1) := by decide +kernel
theorem d_Finder_setPower_46 : decode b_Finder_setPower 46 = .ok (.getfield 40, 3) := by decide +kernel
theorem d_Finder_setPower_49 : decode b_Finder_setPower 49 = .ok (.invokevirtual 103, 3) := by decide +kernel
theorem d_Finder_setPower_52 : decode b_Finder_setPower 52 = .ok (.goto 39, 3) := by decide +kernel
theorem d_Finder_setPower_55 : decode b_Finder_setPower 55 = .ok (.aload_n 0, 1) := by decide +kernel
theorem d_Finder_setPower_56 : decode b_Finder_setPower 56 = .ok (.getfield 10, 3) := by decide +kernel
theorem d_Finder_setPower_59 : decode b_Finder_setPower 59 = .ok (.aload_n 0, 1) := by decide +kernel
theorem d_Finder_setPower_60 : decode b_Finder_setPower 60 = .ok (.getfield 40, 3) := by decide +kernel
theorem d_Finder_setPower_63 : decode b_Finder_setPower 63 = .ok (.ineg, 1) := by decide +kernel
theorem d_Finder_setPower_64 : decode b_Finder_setPower 64 = .ok (.invokevirtual 103, 3) := by decide +kernel
theorem d_Finder_setPower_67 : decode b_Finder_setPower 67 = .ok (.aload_n 0, 1) := by decide +kernel
theorem d_Finder_setPower_68 : decode b_Finder_setPower 68 = .ok (.getfield 22, 3) := by decide +kernel
theorem d_Finder_setPower_71 : decode b_Finder_setPower 71 = .ok (.aload_n 0, 1) := by decide +kernel
theorem d_Finder_setPower_72 : decode b_Finder_setPower 72 = .ok (.getfield 40, 3) := by decide +kernel
theorem d_Finder_setPower_75 : decode b_Finder_setPower 75 = .ok (.ineg, 1) := by decide +kernel
theorem d_Finder_setPower_76 : decode b_Finder_setPower 76 = .ok (.invokevirtual 103, 3) := by decide +kernel
theorem d_Finder_setPower_79 : decode b_Finder_setPower 79 = .ok (.aload_n 0, 1) := by decide +kernel
theorem d_Finder_setPower_80 : decode b_Finder_setPower 80 = .ok (.getfield 19, 3) := by decide +kernel
theorem d_Finder_setPower_83 : decode b_Finder_setPower 83 = .ok (.aload_n 0, 1) := by decide +kernel
theorem d_Finder_setPower_84 : decode b_Finder_setPower 84 = .ok (.getfield 40, 3) := by decide +kernel
theorem d_Finder_setPower_87 : decode b_Finder_setPower 87 = .ok (.ineg, 1) := by decide +kernel
theorem d_Finder_setPower_88 : decode b_Finder_setPower 88 = .ok (.invokevirtual 103, 3) := by decide +kernel
theorem d_Finder_setPower_91 : decode b_Finder_setPower 91 = .ok (.aload_n 0, 1) := by decide +kernel
theorem d_Finder_setPower_92 : decode b_Finder_setPower 92 = .ok (.getfield 25, 3) := by decide +kernel
theorem d_Finder_setPower_95 : decode b_Finder_setPower 95 = .ok (.aload_n 0, 1) := by decide +kernel
theorem d_Finder_setPower_96 : decode b_Finder_setPower 96 = .ok (.getfield 16, 3) := by decide +kernel
theorem d_Finder_setPower_99 : decode b_Finder_setPower 99 = .ok (.invokevirtual 106, 3) := by decide +kernel
theorem d_Finder_setPower_102 : decode b_Finder_setPower 102 = .ok (.aload_n 0, 1) := by decide +kernel
theorem d_Finder_setPower_103 : decode b_Finder_setPower 103 = .ok (.getfield 25, 3) := by decide +kernel
theorem d_Finder_setPower_106 : decode b_Finder_setPower 106 = .ok (.bipush 10, 2) := by decide +kernel
theorem d_Finder_setPower_108 : decode b_Finder_setPower 108 = .ok (.iconst 0, 1) := by decide +kernel
theorem d_Finder_setPower_109 : decode b_Finder_setPower 109 = .ok (.invokevirtual 110, 3) := by decide +kernel
theorem d_Finder_setPower_112 : decode b_Finder_setPower 112 = .ok (.aload_n 0, 1) := by decide +kernel
theorem d_Finder_setPower_113 : decode b_Finder_setPower 113 = .ok (.getfield 10, 3) := by decide +kernel
theorem d_Finder_setPower_116 : decode b_Finder_setPower 116 = .ok (.aload_n 0, 1) := by decide +kernel
theorem d_Finder_setPower_117 : decode b_Finder_setPower 117 = .ok (.getfield 25, 3) := by decide +kernel
theorem d_Finder_setPower_120 : decode b_Finder_setPower 120 = .ok (.invokevirtual 114, 3) := by decide +kernel
theorem d_Finder_setPower_123 : decode b_Finder_setPower 123 = .ok (.ifCond .lt 24, 3) := by decide +kernel
theorem d_Finder_setPower_126 : decode b_Finder_setPower 126 = .ok (.aload_n 0, 1) := by decide +kernel
theorem d_Finder_setPower_127 : decode b_Finder_setPower 127 = .ok (.getfield 16, 3) := by decide +kernel
theorem d_Finder_setPower_130 : decode b_Finder_setPower 130 = .ok (.aload_n 0, 1) := by decide +kernel
theorem d_Finder_setPower_131 : decode b_Finder_setPower 131 = .ok (.getfield 25, 3) := by decide +kernel
theorem d_Finder_setPower_134 : decode b_Finder_setPower 134 = .ok (.invokevirtual 106, 3) := by decide +kernel
theorem d_Finder_setPower_137 : decode b_Finder_setPower 137 = .ok (.aload_n 0, 1) := by decide +kernel
theorem d_Finder_setPower_138 : decode b_Finder_setPower 138 = .ok (.dup, 1) := by decide +kernel
theorem d_Finder_setPower_139 : decode b_Finder_setPower 139 = .ok (.getfield 40, 3) := by decide +kernel
theorem d_Finder_setPower_142 : decode b_Finder_setPower 142 = .ok (.iconst 1, 1) := by decide +kernel
theorem d_Finder_setPower_143 : decode b_Finder_setPower 143 = .ok (.iadd, 1) := by decide +kernel
theorem d_Finder_setPower_144 : decode b_Finder_setPower 144 = .ok (.putfield 40, 3) := by decide +kernel
theorem d_Finder_setPower_147 : decode b_Finder_setPower 147 = .ok (.return_, 1) := by decide +kernel
theorem d_Finder_timesTen_0 : decode b_Finder_timesTen 0 = .ok (.aload_n 0, 1) := by decide +kernel
theorem d_Finder_timesTen_1 : decode b_Finder_timesTen 1 = .ok (.getfield 10, 3) := by decide +kernel
theorem d_Finder_timesTen_4 : decode b_Finder_timesTen 4 = .ok (.bipush 10, 2) := by decide +kernel
theorem d_Finder_timesTen_6 : decode b_Finder_timesTen 6 = .ok (.iconst 0, 1) := by decide +kernel
theorem d_Finder_timesTen_7 : decode b_Finder_timesTen 7 = .ok (.invokevirtual 110, 3) := by decide +kernel
theorem d_Finder_timesTen_10 : decode b_Finder_timesTen 10 = .ok (.aload_n 0, 1) := by decide +kernel
theorem d_Finder_timesTen_11 : decode b_Finder_timesTen 11 = .ok (.getfield 22, 3) := by decide +kernel
theorem d_Finder_timesTen_14 : decode b_Finder_timesTen 14 = .ok (.bipush 10, 2) := by decide +kernel
theorem d_Finder_timesTen_16 : decode b_Finder_timesTen 16 = .ok (.iconst 0, 1) := by decide +kernel
theorem d_Finder_timesTen_17 : decode b_Finder_timesTen 17 = .ok (.invokevirtual 110, 3) := by decide +kernel
theorem d_Finder_timesTen_20 : decode b_Finder_timesTen 20 = .ok (.aload_n 0, 1) := by decide +kernel
theorem d_Finder_timesTen_21 : decode b_Finder_timesTen 21 = .ok (.getfield 19, 3) := by decide +kernel
theorem d_Finder_timesTen_24 : decode b_Finder_timesTen 24 = .ok (.bipush 10, 2) := by decide +kernel
theorem d_Finder_timesTen_26 : decode b_Finder_timesTen 26 = .ok (.iconst 0, 1) := by decide +kernel
theorem d_Finder_timesTen_27 : decode b_Finder_timesTen 27 = .ok (.invokevirtual 110, 3) := by decide +kernel
theorem d_Finder_timesTen_30 : decode b_Finder_timesTen 30 = .ok (.return_, 1) := by decide +kernel
theorem d_Finder_takeDigit_0 : decode b_Finder_takeDigit 0 = .ok (.iconst 0, 1) := by decide +kernel
theorem d_Finder_takeDigit_1 : decode b_Finder_takeDigit 1 = .ok (.istore_n 1, 1) := by decide +kernel
theorem d_Finder_takeDigit_2 : decode b_Finder_takeDigit 2 = .ok (.iload_n 1, 1) := by decide +kernel
theorem d_Finder_takeDigit_3 : decode b_Finder_takeDigit 3 = .ok (.bipush 9, 2) := by decide +kernel
theorem d_Finder_takeDigit_5 : decode b_Finder_takeDigit 5 = .ok (.if_icmp .ge 34, 3) := by decide +kernel
theorem d_Finder_takeDigit_8 : decode b_Finder_takeDigit 8 = .ok (.aload_n 0, 1) := by decide +kernel
theorem d_Finder_takeDigit_9 : decode b_Finder_takeDigit 9 = .ok (.getfield 10, 3) := by decide +kernel
theorem d_Finder_takeDigit_12 : decode b_Finder_takeDigit 12 = .ok (.aload_n 0, 1) := by decide +kernel
theorem d_Finder_takeDigit_13 : decode b_Finder_takeDigit 13 = .ok (.getfield 16, 3) := by decide +kernel
theorem d_Finder_takeDigit_16 : decode b_Finder_takeDigit 16 = .ok (.invokevirtual 114, 3) := by decide +kernel
theorem d_Finder_takeDigit_19 : decode b_Finder_takeDigit 19 = .ok (.ifCond .lt 20, 3) := by decide +kernel
theorem d_Finder_takeDigit_22 : decode b_Finder_takeDigit 22 = .ok (.aload_n 0, 1) := by decide +kernel
theorem d_Finder_takeDigit_23 : decode b_Finder_takeDigit 23 = .ok (.getfield 10, 3) := by decide +kernel
theorem d_Finder_takeDigit_26 : decode b_Finder_takeDigit 26 = .ok (.aload_n 0, 1) := by decide +kernel
theorem d_Finder_takeDigit_27 : decode b_Finder_takeDigit 27 = .ok (.getfield 16, 3) := by decide +kernel
theorem d_Finder_takeDigit_30 : decode b_Finder_takeDigit 30 = .ok (.invokevirtual 118, 3) := by decide +kernel
theorem d_Finder_takeDigit_33 : decode b_Finder_takeDigit 33 = .ok (.iinc 1 1, 3) := by decide +kernel
theorem d_Finder_takeDigit_36 : decode b_Finder_takeDigit 36 = .ok (.goto (-34), 3) := by decide +kernel
theorem d_Finder_takeDigit_39 : decode b_Finder_takeDigit 39 = .ok (.iload_n 1, 1) := by decide +kernel
theorem d_Finder_takeDigit_40 : decode b_Finder_takeDigit 40 = .ok (.ireturn, 1) := by decide +kernel
theorem d_Finder_choose_0 : decode b_Finder_choose 0 = .ok (.aload_n 0, 1) := by decide +kernel
theorem d_Finder_choose_1 : decode b_Finder_choose 1 = .ok (.aload_n 0, 1) := by decide +kernel
theorem d_Finder_choose_2 : decode b_Finder_choose 2 = .ok (.getfield 10, 3) := by decide +kernel
theorem d_Finder_choose_5 : decode b_Finder_choose 5 = .ok (.aload_n 0, 1) := by decide +kernel
theorem d_Finder_choose_6 : decode b_Finder_choose 6 = .ok (.getfield 19, 3) := by decide +kernel
theorem d_Finder_choose_9 : decode b_Finder_choose 9 = .ok (.invokevirtual 114, 3) := by decide +kernel
theorem d_Finder_choose_12 : decode b_Finder_choose 12 = .ok (.invokevirtual 121, 3) := by decide +kernel
theorem d_Finder_choose_15 : decode b_Finder_choose 15 = .ok (.istore_n 1, 1) := by decide +kernel
theorem d_Finder_choose_16 : decode b_Finder_choose 16 = .ok (.aload_n 0, 1) := by decide +kernel
theorem d_Finder_choose_17 : decode b_Finder_choose 17 = .ok (.getfield 25, 3) := by decide +kernel
theorem d_Finder_choose_20 : decode b_Finder_choose 20 = .ok (.aload_n 0, 1) := by decide +kernel
theorem d_Finder_choose_21 : decode b_Finder_choose 21 = .ok (.getfield 10, 3) := by decide +kernel
theorem d_Finder_choose_24 : decode b_Finder_choose 24 = .ok (.invokevirtual 106, 3) := by decide +kernel
theorem d_Finder_choose_27 : decode b_Finder_choose 27 = .ok (.aload_n 0, 1) := by decide +kernel
theorem d_Finder_choose_28 : decode b_Finder_choose 28 = .ok (.getfield 25, 3) := by decide +kernel
theorem d_Finder_choose_31 : decode b_Finder_choose 31 = .ok (.aload_n 0, 1) := by decide +kernel
theorem d_Finder_choose_32 : decode b_Finder_choose 32 = .ok (.getfield 22, 3) := by decide +kernel
theorem d_Finder_choose_35 : decode b_Finder_choose 35 = .ok (.invokevirtual 125, 3) := by decide +kernel
theorem d_Finder_choose_38 : decode b_Finder_choose 38 = .ok (.aload_n 0, 1) := by decide +kernel
theorem d_Finder_choose_39 : decode b_Finder_choose 39 = .ok (.aload_n 0, 1) := by decide +kernel
theorem d_Finder_choose_40 : decode b_Finder_choose 40 = .ok (.getfield 16, 3) := by decide +kernel
theorem d_Finder_choose_43 : decode b_Finder_choose 43 = .ok (.aload_n 0, 1) := by decide +kernel
theorem d_Finder_choose_44 : decode b_Finder_choose 44 = .ok (.getfield 25, 3) := by decide +kernel
theorem d_Finder_choose_47 : decode b_Finder_choose 47 = .ok (.invokevirtual 114, 3) := by decide +kernel
theorem d_Finder_choose_50 : decode b_Finder_choose 50 = .ok (.invokevirtual 121, 3) := by decide +kernel
theorem d_Finder_choose_53 : decode b_Finder_choose 53 = .ok (.istore_n 2, 1) := by decide +kernel
theorem d_Finder_choose_54 : decode b_Finder_choose 54 = .ok (.aload_n 0, 1) := by decide +kernel
theorem d_Finder_choose_55 : decode b_Finder_choose 55 = .ok (.getfield 25, 3) := by decide +kernel
theorem d_Finder_choose_58 : decode b_Finder_choose 58 = .ok (.aload_n 0, 1) := by decide +kernel
theorem d_Finder_choose_59 : decode b_Finder_choose 59 = .ok (.getfield 10, 3) := by decide +kernel
theorem d_Finder_choose_62 : decode b_Finder_choose 62 = .ok (.invokevirtual 106, 3) := by decide +kernel
theorem d_Finder_choose_65 : decode b_Finder_choose 65 = .ok (.aload_n 0, 1) := by decide +kernel
theorem d_Finder_choose_66 : decode b_Finder_choose 66 = .ok (.getfield 25, 3) := by decide +kernel
theorem d_Finder_choose_69 : decode b_Finder_choose 69 = .ok (.iconst 2, 1) := by decide +kernel
theorem d_Finder_choose_70 : decode b_Finder_choose 70 = .ok (.iconst 0, 1) := by decide +kernel
theorem d_Finder_choose_71 : decode b_Finder_choose 71 = .ok (.invokevirtual 110, 3) := by decide +kernel
theorem d_Finder_choose_74 : decode b_Finder_choose 74 = .ok (.aload_n 0, 1) := by decide +kernel
theorem d_Finder_choose_75 : decode b_Finder_choose 75 = .ok (.getfield 25, 3) := by decide +kernel
theorem d_Finder_choose_78 : decode b_Finder_choose 78 = .ok (.aload_n 0, 1) := by decide +kernel
theorem d_Finder_choose_79 : decode b_Finder_choose 79 = .ok (.getfield 16, 3) := by decide +kernel
theorem d_Finder_choose_82 : decode b_Finder_choose 82 = .ok (.invokevirtual 114, 3) := by decide +kernel
theorem d_Finder_choose_85 : decode b_Finder_choose 85 = .ok (.ifCond .le 7, 3) := by decide +kernel
theorem d_Finder_choose_88 : decode b_Finder_choose 88 = .ok (.iconst 1, 1) := by decide +kernel
theorem d_Finder_choose_89 : decode b_Finder_choose 89 = .ok (.goto 4, 3) := by decide +kernel
theorem d_Finder_choose_92 : decode b_Finder_choose 92 = .ok (.iconst 0, 1) := by decide +kernel
theorem d_Finder_choose_93 : decode b_Finder_choose 93 = .ok (.istore_n 3, 1) := by decide +kernel
theorem d_Finder_choose_94 : decode b_Finder_choose 94 = .ok (.iload_n 2, 1) := by decide +kernel
theorem d_Finder_choose_95 : decode b_Finder_choose 95 = .ok (.ifCond .eq 21, 3) := by decide +kernel
