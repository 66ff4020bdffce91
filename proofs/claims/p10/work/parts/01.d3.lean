theorem d_Desk_tellAllDigits_4 : decode b_Desk_tellAllDigits 4 = .ok (.aload_n 0, 1) := by decide +kernel
theorem d_Desk_tellAllDigits_5 : decode b_Desk_tellAllDigits 5 = .ok (.getfield 10, 3) := by decide +kernel
theorem d_Desk_tellAllDigits_8 : decode b_Desk_tellAllDigits 8 = .ok (.lload_n 1, 1) := by decide +kernel
theorem d_Desk_tellAllDigits_9 : decode b_Desk_tellAllDigits 9 = .ok (.invokevirtual 150, 3) := by decide +kernel
theorem d_Desk_tellAllDigits_12 : decode b_Desk_tellAllDigits 12 = .ok (.invokevirtual 159, 3) := by decide +kernel
theorem d_Desk_tellAllDigits_15 : decode b_Desk_tellAllDigits 15 = .ok (.aload_n 0, 1) := by decide +kernel
theorem d_Desk_tellAllDigits_16 : decode b_Desk_tellAllDigits 16 = .ok (.getfield 10, 3) := by decide +kernel
theorem d_Desk_tellAllDigits_19 : decode b_Desk_tellAllDigits 19 = .ok (.lload_n 1, 1) := by decide +kernel
theorem d_Desk_tellAllDigits_20 : decode b_Desk_tellAllDigits 20 = .ok (.invokevirtual 144, 3) := by decide +kernel
theorem d_Desk_tellAllDigits_23 : decode b_Desk_tellAllDigits 23 = .ok (.lstore_n 3, 1) := by decide +kernel
theorem d_Desk_tellAllDigits_24 : decode b_Desk_tellAllDigits 24 = .ok (.aload_n 0, 1) := by decide +kernel
theorem d_Desk_tellAllDigits_25 : decode b_Desk_tellAllDigits 25 = .ok (.getfield 10, 3) := by decide +kernel
theorem d_Desk_tellAllDigits_28 : decode b_Desk_tellAllDigits 28 = .ok (.lload_n 3, 1) := by decide +kernel
theorem d_Desk_tellAllDigits_29 : decode b_Desk_tellAllDigits 29 = .ok (.invokevirtual 185, 3) := by decide +kernel
theorem d_Desk_tellAllDigits_32 : decode b_Desk_tellAllDigits 32 = .ok (.lstore 5, 2) := by decide +kernel
theorem d_Desk_tellAllDigits_34 : decode b_Desk_tellAllDigits 34 = .ok (.aload_n 0, 1) := by decide +kernel
theorem d_Desk_tellAllDigits_35 : decode b_Desk_tellAllDigits 35 = .ok (.getfield 10, 3) := by decide +kernel
theorem d_Desk_tellAllDigits_38 : decode b_Desk_tellAllDigits 38 = .ok (.lload_n 3, 1) := by decide +kernel
theorem d_Desk_tellAllDigits_39 : decode b_Desk_tellAllDigits 39 = .ok (.invokevirtual 188, 3) := by decide +kernel
theorem d_Desk_tellAllDigits_42 : decode b_Desk_tellAllDigits 42 = .ok (.istore 7, 2) := by decide +kernel
theorem d_Desk_tellAllDigits_44 : decode b_Desk_tellAllDigits 44 = .ok (.iload 7, 2) := by decide +kernel
theorem d_Desk_tellAllDigits_46 : decode b_Desk_tellAllDigits 46 = .ok (.ifCond .ge 24, 3) := by decide +kernel
theorem d_Desk_tellAllDigits_49 : decode b_Desk_tellAllDigits 49 = .ok (.lload 5, 2) := by decide +kernel
theorem d_Desk_tellAllDigits_51 : decode b_Desk_tellAllDigits 51 = .ok (.lconst 1, 1) := by decide +kernel
theorem d_Desk_tellAllDigits_52 : decode b_Desk_tellAllDigits 52 = .ok (.land, 1) := by decide +kernel
theorem d_Desk_tellAllDigits_53 : decode b_Desk_tellAllDigits 53 = .ok (.lconst 0, 1) := by decide +kernel
theorem d_Desk_tellAllDigits_54 : decode b_Desk_tellAllDigits 54 = .ok (.lcmp, 1) := by decide +kernel
theorem d_Desk_tellAllDigits_55 : decode b_Desk_tellAllDigits 55 = .ok (.ifCond .ne 15, 3) := by decide +kernel
theorem d_Desk_tellAllDigits_58 : decode b_Desk_tellAllDigits 58 = .ok (.lload 5, 2) := by decide +kernel
theorem d_Desk_tellAllDigits_60 : decode b_Desk_tellAllDigits 60 = .ok (.iconst 1, 1) := by decide +kernel
theorem d_Desk_tellAllDigits_61 : decode b_Desk_tellAllDigits 61 = .ok (.lshr, 1) := by decide +kernel
theorem d_Desk_tellAllDigits_62 : decode b_Desk_tellAllDigits 62 = .ok (.lstore 5, 2) := by decide +kernel
theorem d_Desk_tellAllDigits_64 : decode b_Desk_tellAllDigits 64 = .ok (.iinc 7 1, 3) := by decide +kernel
theorem d_Desk_tellAllDigits_67 : decode b_Desk_tellAllDigits 67 = .ok (.goto (-23), 3) := by decide +kernel
theorem d_Desk_tellAllDigits_70 : decode b_Desk_tellAllDigits 70 = .ok (.aload_n 0, 1) := by decide +kernel
theorem d_Desk_tellAllDigits_71 : decode b_Desk_tellAllDigits 71 = .ok (.getfield 47, 3) := by decide +kernel
theorem d_Desk_tellAllDigits_74 : decode b_Desk_tellAllDigits 74 = .ok (.lload 5, 2) := by decide +kernel
theorem d_Desk_tellAllDigits_76 : decode b_Desk_tellAllDigits 76 = .ok (.invokevirtual 192, 3) := by decide +kernel
theorem d_Desk_tellAllDigits_79 : decode b_Desk_tellAllDigits 79 = .ok (.iload 7, 2) := by decide +kernel
theorem d_Desk_tellAllDigits_81 : decode b_Desk_tellAllDigits 81 = .ok (.ifCond .lt 27, 3) := by decide +kernel
theorem d_Desk_tellAllDigits_84 : decode b_Desk_tellAllDigits 84 = .ok (.aload_n 0, 1) := by decide +kernel
theorem d_Desk_tellAllDigits_85 : decode b_Desk_tellAllDigits 85 = .ok (.getfield 47, 3) := by decide +kernel
theorem d_Desk_tellAllDigits_88 : decode b_Desk_tellAllDigits 88 = .ok (.iload 7, 2) := by decide +kernel
theorem d_Desk_tellAllDigits_90 : decode b_Desk_tellAllDigits 90 = .ok (.invokevirtual 195, 3) := by decide +kernel
theorem d_Desk_tellAllDigits_93 : decode b_Desk_tellAllDigits 93 = .ok (.aload_n 0, 1) := by decide +kernel
theorem d_Desk_tellAllDigits_94 : decode b_Desk_tellAllDigits 94 = .ok (.getfield 54, 3) := by decide +kernel
theorem d_Desk_tellAllDigits_97 : decode b_Desk_tellAllDigits 97 = .ok (.aload_n 0, 1) := by decide +kernel
theorem d_Desk_tellAllDigits_98 : decode b_Desk_tellAllDigits 98 = .ok (.getfield 47, 3) := by decide +kernel
theorem d_Desk_tellAllDigits_101 : decode b_Desk_tellAllDigits 101 = .ok (.iconst 0, 1) := by decide +kernel
theorem d_Desk_tellAllDigits_102 : decode b_Desk_tellAllDigits 102 = .ok (.invokevirtual 198, 3) := by decide +kernel
theorem d_Desk_tellAllDigits_105 : decode b_Desk_tellAllDigits 105 = .ok (.goto 27, 3) := by decide +kernel
theorem d_Desk_tellAllDigits_108 : decode b_Desk_tellAllDigits 108 = .ok (.aload_n 0, 1) := by decide +kernel
theorem d_Desk_tellAllDigits_109 : decode b_Desk_tellAllDigits 109 = .ok (.getfield 47, 3) := by decide +kernel
theorem d_Desk_tellAllDigits_112 : decode b_Desk_tellAllDigits 112 = .ok (.iload 7, 2) := by decide +kernel
theorem d_Desk_tellAllDigits_114 : decode b_Desk_tellAllDigits 114 = .ok (.ineg, 1) := by decide +kernel
theorem d_Desk_tellAllDigits_115 : decode b_Desk_tellAllDigits 115 = .ok (.invokevirtual 202, 3) := by decide +kernel
theorem d_Desk_tellAllDigits_118 : decode b_Desk_tellAllDigits 118 = .ok (.aload_n 0, 1) := by decide +kernel
theorem d_Desk_tellAllDigits_119 : decode b_Desk_tellAllDigits 119 = .ok (.getfield 54, 3) := by decide +kernel
theorem d_Desk_tellAllDigits_122 : decode b_Desk_tellAllDigits 122 = .ok (.aload_n 0, 1) := by decide +kernel
theorem d_Desk_tellAllDigits_123 : decode b_Desk_tellAllDigits 123 = .ok (.getfield 47, 3) := by decide +kernel
theorem d_Desk_tellAllDigits_126 : decode b_Desk_tellAllDigits 126 = .ok (.iload 7, 2) := by decide +kernel
theorem d_Desk_tellAllDigits_128 : decode b_Desk_tellAllDigits 128 = .ok (.ineg, 1) := by decide +kernel
theorem d_Desk_tellAllDigits_129 : decode b_Desk_tellAllDigits 129 = .ok (.invokevirtual 198, 3) := by decide +kernel
theorem d_Desk_tellAllDigits_132 : decode b_Desk_tellAllDigits 132 = .ok (.return_, 1) := by decide +kernel
theorem d_Integer_numberOfLeadingZeros_0 : decode b_Integer_numberOfLeadingZeros 0 = .ok (.iload_n 0, 1) := by decide +kernel
theorem d_Integer_numberOfLeadingZeros_1 : decode b_Integer_numberOfLeadingZeros 1 = .ok (.ifCond .gt 14, 3) := by decide +kernel
theorem d_Integer_numberOfLeadingZeros_4 : decode b_Integer_numberOfLeadingZeros 4 = .ok (.iload_n 0, 1) := by decide +kernel
theorem d_Integer_numberOfLeadingZeros_5 : decode b_Integer_numberOfLeadingZeros 5 = .ok (.ifCond .ne 8, 3) := by decide +kernel
theorem d_Integer_numberOfLeadingZeros_8 : decode b_Integer_numberOfLeadingZeros 8 = .ok (.bipush 32, 2) := by decide +kernel
theorem d_Integer_numberOfLeadingZeros_10 : decode b_Integer_numberOfLeadingZeros 10 = .ok (.goto 4, 3) := by decide +kernel
theorem d_Integer_numberOfLeadingZeros_13 : decode b_Integer_numberOfLeadingZeros 13 = .ok (.iconst 0, 1) := by decide +kernel
theorem d_Integer_numberOfLeadingZeros_14 : decode b_Integer_numberOfLeadingZeros 14 = .ok (.ireturn, 1) := by decide +kernel
theorem d_Integer_numberOfLeadingZeros_15 : decode b_Integer_numberOfLeadingZeros 15 = .ok (.bipush 31, 2) := by decide +kernel
theorem d_Integer_numberOfLeadingZeros_17 : decode b_Integer_numberOfLeadingZeros 17 = .ok (.istore_n 1, 1) := by decide +kernel
theorem d_Integer_numberOfLeadingZeros_18 : decode b_Integer_numberOfLeadingZeros 18 = .ok (.iload_n 0, 1) := by decide +kernel
theorem d_Integer_numberOfLeadingZeros_19 : decode b_Integer_numberOfLeadingZeros 19 = .ok (.ldc_w 264, 3) := by decide +kernel
theorem d_Integer_numberOfLeadingZeros_22 : decode b_Integer_numberOfLeadingZeros 22 = .ok (.if_icmp .lt 11, 3) := by decide +kernel
theorem d_Integer_numberOfLeadingZeros_25 : decode b_Integer_numberOfLeadingZeros 25 = .ok (.iinc 1 (-16), 3) := by decide +kernel
theorem d_Integer_numberOfLeadingZeros_28 : decode b_Integer_numberOfLeadingZeros 28 = .ok (.iload_n 0, 1) := by decide +kernel
theorem d_Integer_numberOfLeadingZeros_29 : decode b_Integer_numberOfLeadingZeros 29 = .ok (.bipush 16, 2) := by decide +kernel
theorem d_Integer_numberOfLeadingZeros_31 : decode b_Integer_numberOfLeadingZeros 31 = .ok (.iushr, 1) := by decide +kernel
theorem d_Integer_numberOfLeadingZeros_32 : decode b_Integer_numberOfLeadingZeros 32 = .ok (.istore_n 0, 1) := by decide +kernel
theorem d_Integer_numberOfLeadingZeros_33 : decode b_Integer_numberOfLeadingZeros 33 = .ok (.iload_n 0, 1) := by decide +kernel
theorem d_Integer_numberOfLeadingZeros_34 : decode b_Integer_numberOfLeadingZeros 34 = .ok (.sipush 256, 3) := by decide +kernel
theorem d_Integer_numberOfLeadingZeros_37 : decode b_Integer_numberOfLeadingZeros 37 = .ok (.if_icmp .lt 11, 3) := by decide +kernel
theorem d_Integer_numberOfLeadingZeros_40 : decode b_Integer_numberOfLeadingZeros 40 = .ok (.iinc 1 (-8), 3) := by decide +kernel
theorem d_Integer_numberOfLeadingZeros_43 : decode b_Integer_numberOfLeadingZeros 43 = .ok (.iload_n 0, 1) := by decide +kernel
theorem d_Integer_numberOfLeadingZeros_44 : decode b_Integer_numberOfLeadingZeros 44 = .ok (.bipush 8, 2) := by decide +kernel
theorem d_Integer_numberOfLeadingZeros_46 : decode b_Integer_numberOfLeadingZeros 46 = .ok (.iushr, 1) := by decide +kernel
theorem d_Integer_numberOfLeadingZeros_47 : decode b_Integer_numberOfLeadingZeros 47 = .ok (.istore_n 0, 1) := by decide +kernel
theorem d_Integer_numberOfLeadingZeros_48 : decode b_Integer_numberOfLeadingZeros 48 = .ok (.iload_n 0, 1) := by decide +kernel
theorem d_Integer_numberOfLeadingZeros_49 : decode b_Integer_numberOfLeadingZeros 49 = .ok (.bipush 16, 2) := by decide +kernel
theorem d_Integer_numberOfLeadingZeros_51 : decode b_Integer_numberOfLeadingZeros 51 = .ok (.if_icmp .lt 10, 3) := by decide +kernel
theorem d_Integer_numberOfLeadingZeros_54 : decode b_Integer_numberOfLeadingZeros 54 = .ok (.iinc 1 (-4), 3) := by decide +kernel
theorem d_Integer_numberOfLeadingZeros_57 : decode b_Integer_numberOfLeadingZeros 57 = .ok (.iload_n 0, 1) := by decide +kernel
theorem d_Integer_numberOfLeadingZeros_58 : decode b_Integer_numberOfLeadingZeros 58 = .ok (.iconst 4, 1) := by decide +kernel
theorem d_Integer_numberOfLeadingZeros_59 : decode b_Integer_numberOfLeadingZeros 59 = .ok (.iushr, 1) := by decide +kernel
theorem d_Integer_numberOfLeadingZeros_60 : decode b_Integer_numberOfLeadingZeros 60 = .ok (.istore_n 0, 1) := by decide +kernel
theorem d_Integer_numberOfLeadingZeros_61 : decode b_Integer_numberOfLeadingZeros 61 = .ok (.iload_n 0, 1) := by decide +kernel
theorem d_Integer_numberOfLeadingZeros_62 : decode b_Integer_numberOfLeadingZeros 62 = .ok (.iconst 4, 1) := by decide +kernel
theorem d_Integer_numberOfLeadingZeros_63 : decode b_Integer_numberOfLeadingZeros 63 = .ok (.if_icmp .lt 10, 3) := by decide +kernel
theorem d_Integer_numberOfLeadingZeros_66 : decode b_Integer_numberOfLeadingZeros 66 = .ok (.iinc 1 (-2), 3) := by decide +kernel
theorem d_Integer_numberOfLeadingZeros_69 : decode b_Integer_numberOfLeadingZeros 69 = .ok (.iload_n 0, 1) := by decide +kernel
theorem d_Integer_numberOfLeadingZeros_70 : decode b_Integer_numberOfLeadingZeros 70 = .ok (.iconst 2, 1) := by decide +kernel
theorem d_Integer_numberOfLeadingZeros_71 : decode b_Integer_numberOfLeadingZeros 71 = .ok (.iushr, 1) := by decide +kernel
theorem d_Integer_numberOfLeadingZeros_72 : decode b_Integer_numberOfLeadingZeros 72 = .ok (.istore_n 0, 1) := by decide +kernel
theorem d_Integer_numberOfLeadingZeros_73 : decode b_Integer_numberOfLeadingZeros 73 = .ok (.iload_n 1, 1) := by decide +kernel
theorem d_Integer_numberOfLeadingZeros_74 : decode b_Integer_numberOfLeadingZeros 74 = .ok (.iload_n 0, 1) := by decide +kernel
theorem d_Integer_numberOfLeadingZeros_75 : decode b_Integer_numberOfLeadingZeros 75 = .ok (.iconst 1, 1) := by decide +kernel
theorem d_Integer_numberOfLeadingZeros_76 : decode b_Integer_numberOfLeadingZeros 76 = .ok (.iushr, 1) := by decide +kernel
theorem d_Integer_numberOfLeadingZeros_77 : decode b_Integer_numberOfLeadingZeros 77 = .ok (.isub, 1) := by decide +kernel
theorem d_Integer_numberOfLeadingZeros_78 : decode b_Integer_numberOfLeadingZeros 78 = .ok (.ireturn, 1) := by decide +kernel
theorem d_Long_numberOfLeadingZeros_0 : decode b_Long_numberOfLeadingZeros 0 = .ok (.lload_n 0, 1) := by decide +kernel
theorem d_Long_numberOfLeadingZeros_1 : decode b_Long_numberOfLeadingZeros 1 = .ok (.bipush 32, 2) := by decide +kernel
theorem d_Long_numberOfLeadingZeros_3 : decode b_Long_numberOfLeadingZeros 3 = .ok (.lushr, 1) := by decide +kernel
theorem d_Long_numberOfLeadingZeros_4 : decode b_Long_numberOfLeadingZeros 4 = .ok (.l2i, 1) := by decide +kernel
theorem d_Long_numberOfLeadingZeros_5 : decode b_Long_numberOfLeadingZeros 5 = .ok (.istore_n 2, 1) := by decide +kernel
theorem d_Long_numberOfLeadingZeros_6 : decode b_Long_numberOfLeadingZeros 6 = .ok (.iload_n 2, 1) := by decide +kernel
theorem d_Long_numberOfLeadingZeros_7 : decode b_Long_numberOfLeadingZeros 7 = .ok (.ifCond .ne 14, 3) := by decide +kernel
theorem d_Long_numberOfLeadingZeros_10 : decode b_Long_numberOfLeadingZeros 10 = .ok (.bipush 32, 2) := by decide +kernel
theorem d_Long_numberOfLeadingZeros_12 : decode b_Long_numberOfLeadingZeros 12 = .ok (.lload_n 0, 1) := by decide +kernel
theorem d_Long_numberOfLeadingZeros_13 : decode b_Long_numberOfLeadingZeros 13 = .ok (.l2i, 1) := by decide +kernel
theorem d_Long_numberOfLeadingZeros_14 : decode b_Long_numberOfLeadingZeros 14 = .ok (.invokestatic 308, 3) := by decide +kernel
theorem d_Long_numberOfLeadingZeros_17 : decode b_Long_numberOfLeadingZeros 17 = .ok (.iadd, 1) := by decide +kernel
theorem d_Long_numberOfLeadingZeros_18 : decode b_Long_numberOfLeadingZeros 18 = .ok (.goto 7, 3) := by decide +kernel
theorem d_Long_numberOfLeadingZeros_21 : decode b_Long_numberOfLeadingZeros 21 = .ok (.iload_n 2, 1) := by decide +kernel
theorem d_Long_numberOfLeadingZeros_22 : decode b_Long_numberOfLeadingZeros 22 = .ok (.invokestatic 308, 3) := by decide +kernel
theorem d_Long_numberOfLeadingZeros_25 : decode b_Long_numberOfLeadingZeros 25 = .ok (.ireturn, 1) := by decide +kernel
theorem d_Math_abs_0 : decode b_Math_abs 0 = .ok (.iload_n 0, 1) := by decide +kernel
theorem d_Math_abs_1 : decode b_Math_abs 1 = .ok (.ifCond .ge 8, 3) := by decide +kernel
theorem d_Math_abs_4 : decode b_Math_abs 4 = .ok (.iload_n 0, 1) := by decide +kernel
theorem d_Math_abs_5 : decode b_Math_abs 5 = .ok (.ineg, 1) := by decide +kernel
theorem d_Math_abs_6 : decode b_Math_abs 6 = .ok (.goto 4, 3) := by decide +kernel
theorem d_Math_abs_9 : decode b_Math_abs 9 = .ok (.iload_n 0, 1) := by decide +kernel
theorem d_Math_abs_10 : decode b_Math_abs 10 = .ok (.ireturn, 1) := by decide +kernel
theorem d_Math_floorDiv_0 : decode b_Math_floorDiv 0 = .ok (.iload_n 0, 1) := by decide +kernel
theorem d_Math_floorDiv_1 : decode b_Math_floorDiv 1 = .ok (.iload_n 1, 1) := by decide +kernel
theorem d_Math_floorDiv_2 : decode b_Math_floorDiv 2 = .ok (.idiv, 1) := by decide +kernel
theorem d_Math_floorDiv_3 : decode b_Math_floorDiv 3 = .ok (.istore_n 2, 1) := by decide +kernel
theorem d_Math_floorDiv_4 : decode b_Math_floorDiv 4 = .ok (.iload_n 0, 1) := by decide +kernel
theorem d_Math_floorDiv_5 : decode b_Math_floorDiv 5 = .ok (.iload_n 1, 1) := by decide +kernel
theorem d_Math_floorDiv_6 : decode b_Math_floorDiv 6 = .ok (.ixor, 1) := by decide +kernel
theorem d_Math_floorDiv_7 : decode b_Math_floorDiv 7 = .ok (.ifCond .ge 14, 3) := by decide +kernel
theorem d_Math_floorDiv_10 : decode b_Math_floorDiv 10 = .ok (.iload_n 2, 1) := by decide +kernel
theorem d_Math_floorDiv_11 : decode b_Math_floorDiv 11 = .ok (.iload_n 1, 1) := by decide +kernel
theorem d_Math_floorDiv_12 : decode b_Math_floorDiv 12 = .ok (.imul, 1) := by decide +kernel
theorem d_Math_floorDiv_13 : decode b_Math_floorDiv 13 = .ok (.iload_n 0, 1) := by decide +kernel
theorem d_Math_floorDiv_14 : decode b_Math_floorDiv 14 = .ok (.if_icmp .eq 7, 3) := by decide +kernel
theorem d_Math_floorDiv_17 : decode b_Math_floorDiv 17 = .ok (.iload_n 2, 1) := by decide +kernel
theorem d_Math_floorDiv_18 : decode b_Math_floorDiv 18 = .ok (.iconst 1, 1) := by decide +kernel
theorem d_Math_floorDiv_19 : decode b_Math_floorDiv 19 = .ok (.isub, 1) := by decide +kernel
theorem d_Math_floorDiv_20 : decode b_Math_floorDiv 20 = .ok (.ireturn, 1) := by decide +kernel
theorem d_Math_floorDiv_21 : decode b_Math_floorDiv 21 = .ok (.iload_n 2, 1) := by decide +kernel
theorem d_Math_floorDiv_22 : decode b_Math_floorDiv 22 = .ok (.ireturn, 1) := by decide +kernel
theorem d_Math_max_0 : decode b_Math_max 0 = .ok (.iload_n 0, 1) := by decide +kernel
theorem d_Math_max_1 : decode b_Math_max 1 = .ok (.iload_n 1, 1) := by decide +kernel
theorem d_Math_max_2 : decode b_Math_max 2 = .ok (.if_icmp .lt 7, 3) := by decide +kernel
theorem d_Math_max_5 : decode b_Math_max 5 = .ok (.iload_n 0, 1) := by decide +kernel
theorem d_Math_max_6 : decode b_Math_max 6 = .ok (.goto 4, 3) := by decide +kernel
theorem d_Math_max_9 : decode b_Math_max 9 = .ok (.iload_n 1, 1) := by decide +kernel
theorem d_Math_max_10 : decode b_Math_max 10 = .ok (.ireturn, 1) := by decide +kernel
theorem d_Math_min_0 : decode b_Math_min 0 = .ok (.iload_n 0, 1) := by decide +kernel
theorem d_Math_min_1 : decode b_Math_min 1 = .ok (.iload_n 1, 1) := by decide +kernel
theorem d_Math_min_2 : decode b_Math_min 2 = .ok (.if_icmp .gt 7, 3) := by decide +kernel
theorem d_Math_min_5 : decode b_Math_min 5 = .ok (.iload_n 0, 1) := by decide +kernel
theorem d_Math_min_6 : decode b_Math_min 6 = .ok (.goto 4, 3) := by decide +kernel
theorem d_Math_min_9 : decode b_Math_min 9 = .ok (.iload_n 1, 1) := by decide +kernel
theorem d_Math_min_10 : decode b_Math_min 10 = .ok (.ireturn, 1) := by decide +kernel
theorem d_Model_init_0 : decode b_Model_init 0 = .ok (.aload_n 0, 1) := by decide +kernel
theorem d_Model_init_1 : decode b_Model_init 1 = .ok (.invokespecial 1, 3) := by decide +kernel
theorem d_Model_init_4 : decode b_Model_init 4 = .ok (.aload_n 0, 1) := by decide +kernel
theorem d_Model_init_5 : decode b_Model_init 5 = .ok (.bipush 8, 2) := by decide +kernel
theorem d_Model_init_7 : decode b_Model_init 7 = .ok (.putfield 7, 3) := by decide +kernel
theorem d_Model_init_10 : decode b_Model_init 10 = .ok (.aload_n 0, 1) := by decide +kernel
theorem d_Model_init_11 : decode b_Model_init 11 = .ok (.bipush 23, 2) := by decide +kernel
theorem d_Model_init_13 : decode b_Model_init 13 = .ok (.putfield 13, 3) := by decide +kernel
theorem d_Model_init_16 : decode b_Model_init 16 = .ok (.aload_n 0, 1) := by decide +kernel
theorem d_Model_init_17 : decode b_Model_init 17 = .ok (.bipush 60, 2) := by decide +kernel
theorem d_Model_init_19 : decode b_Model_init 19 = .ok (.newarray .int, 2) := by decide +kernel
theorem d_Model_init_21 : decode b_Model_init 21 = .ok (.putfield 16, 3) := by decide +kernel
theorem d_Model_init_24 : decode b_Model_init 24 = .ok (.aload_n 0, 1) := by decide +kernel
theorem d_Model_init_25 : decode b_Model_init 25 = .ok (.sipush 300, 3) := by decide +kernel
theorem d_Model_init_28 : decode b_Model_init 28 = .ok (.newarray .int, 2) := by decide +kernel
theorem d_Model_init_30 : decode b_Model_init 30 = .ok (.putfield 20, 3) := by decide +kernel
theorem d_Model_init_33 : decode b_Model_init 33 = .ok (.aload_n 0, 1) := by decide +kernel
theorem d_Model_init_34 : decode b_Model_init 34 = .ok (.sipush 400, 3) := by decide +kernel
theorem d_Model_init_37 : decode b_Model_init 37 = .ok (.newarray .int, 2) := by decide +kernel
theorem d_Model_init_39 : decode b_Model_init 39 = .ok (.putfield 23, 3) := by decide +kernel
theorem d_Model_init_42 : decode b_Model_init 42 = .ok (.aload_n 0, 1) := by decide +kernel
theorem d_Model_init_43 : decode b_Model_init 43 = .ok (.bipush 60, 2) := by decide +kernel
theorem d_Model_init_45 : decode b_Model_init 45 = .ok (.putfield 26, 3) := by decide +kernel
theorem d_Model_init_48 : decode b_Model_init 48 = .ok (.aload_n 0, 1) := by decide +kernel
theorem d_Model_init_49 : decode b_Model_init 49 = .ok (.bipush 60, 2) := by decide +kernel
theorem d_Model_init_51 : decode b_Model_init 51 = .ok (.putfield 29, 3) := by decide +kernel
theorem d_Model_init_54 : decode b_Model_init 54 = .ok (.aload_n 0, 1) := by decide +kernel
theorem d_Model_init_55 : decode b_Model_init 55 = .ok (.sipush 400, 3) := by decide +kernel
theorem d_Model_init_58 : decode b_Model_init 58 = .ok (.newarray .int, 2) := by decide +kernel
theorem d_Model_init_60 : decode b_Model_init 60 = .ok (.putfield 32, 3) := by decide +kernel
theorem d_Model_init_63 : decode b_Model_init 63 = .ok (.aload_n 0, 1) := by decide +kernel
theorem d_Model_init_64 : decode b_Model_init 64 = .ok (.bipush 40, 2) := by decide +kernel
theorem d_Model_init_66 : decode b_Model_init 66 = .ok (.newarray .int, 2) := by decide +kernel
theorem d_Model_init_68 : decode b_Model_init 68 = .ok (.putfield 35, 3) := by decide +kernel
theorem d_Model_init_71 : decode b_Model_init 71 = .ok (.aload_n 0, 1) := by decide +kernel
theorem d_Model_init_72 : decode b_Model_init 72 = .ok (.sipush 200, 3) := by decide +kernel
theorem d_Model_init_75 : decode b_Model_init 75 = .ok (.newarray .int, 2) := by decide +kernel
theorem d_Model_init_77 : decode b_Model_init 77 = .ok (.putfield 38, 3) := by decide +kernel
theorem d_Model_init_80 : decode b_Model_init 80 = .ok (.return_, 1) := by decide +kernel
theorem d_Model_thrown_0 : decode b_Model_thrown 0 = .ok (.aload_n 0, 1) := by decide +kernel
theorem d_Model_thrown_1 : decode b_Model_thrown 1 = .ok (.getfield 41, 3) := by decide +kernel
theorem d_Model_thrown_4 : decode b_Model_thrown 4 = .ok (.ireturn, 1) := by decide +kernel
theorem d_Model_raise_0 : decode b_Model_raise 0 = .ok (.aload_n 0, 1) := by decide +kernel
theorem d_Model_raise_1 : decode b_Model_raise 1 = .ok (.iload_n 1, 1) := by decide +kernel
theorem d_Model_raise_2 : decode b_Model_raise 2 = .ok (.putfield 41, 3) := by decide +kernel
theorem d_Model_raise_5 : decode b_Model_raise 5 = .ok (.iconst 0, 1) := by decide +kernel
theorem d_Model_raise_6 : decode b_Model_raise 6 = .ok (.ireturn, 1) := by decide +kernel
theorem d_Model_format_0 : decode b_Model_format 0 = .ok (.aload_n 0, 1) := by decide +kernel
theorem d_Model_format_1 : decode b_Model_format 1 = .ok (.iconst 0, 1) := by decide +kernel
theorem d_Model_format_2 : decode b_Model_format 2 = .ok (.putfield 41, 3) := by decide +kernel
theorem d_Model_format_5 : decode b_Model_format 5 = .ok (.iload_n 1, 1) := by decide +kernel
theorem d_Model_format_6 : decode b_Model_format 6 = .ok (.iconst 2, 1) := by decide +kernel
theorem d_Model_format_7 : decode b_Model_format 7 = .ok (.if_icmp .lt 20, 3) := by decide +kernel
theorem d_Model_format_10 : decode b_Model_format 10 = .ok (.iload_n 1, 1) := by decide +kernel
theorem d_Model_format_11 : decode b_Model_format 11 = .ok (.bipush 8, 2) := by decide +kernel
theorem d_Model_format_13 : decode b_Model_format 13 = .ok (.if_icmp .gt 14, 3) := by decide +kernel
theorem d_Model_format_16 : decode b_Model_format 16 = .ok (.iload_n 2, 1) := by decide +kernel
theorem d_Model_format_17 : decode b_Model_format 17 = .ok (.iconst 1, 1) := by decide +kernel
theorem d_Model_format_18 : decode b_Model_format 18 = .ok (.if_icmp .lt 9, 3) := by decide +kernel
theorem d_Model_format_21 : decode b_Model_format 21 = .ok (.iload_n 2, 1) := by decide +kernel
theorem d_Model_format_22 : decode b_Model_format 22 = .ok (.bipush 23, 2) := by decide +kernel
theorem d_Model_format_24 : decode b_Model_format 24 = .ok (.if_icmp .le 5, 3) := by decide +kernel
theorem d_Model_format_27 : decode b_Model_format 27 = .ok (.iconst 0, 1) := by decide +kernel
theorem d_Model_format_28 : decode b_Model_format 28 = .ok (.ireturn, 1) := by decide +kernel
theorem d_Model_format_29 : decode b_Model_format 29 = .ok (.aload_n 0, 1) := by decide +kernel
theorem d_Model_format_30 : decode b_Model_format 30 = .ok (.iload_n 1, 1) := by decide +kernel
theorem d_Model_format_31 : decode b_Model_format 31 = .ok (.putfield 7, 3) := by decide +kernel
theorem d_Model_format_34 : decode b_Model_format 34 = .ok (.aload_n 0, 1) := by decide +kernel
theorem d_Model_format_35 : decode b_Model_format 35 = .ok (.iload_n 2, 1) := by decide +kernel
theorem d_Model_format_36 : decode b_Model_format 36 = .ok (.putfield 13, 3) := by decide +kernel
theorem d_Model_format_39 : decode b_Model_format 39 = .ok (.iconst 1, 1) := by decide +kernel
theorem d_Model_format_40 : decode b_Model_format 40 = .ok (.ireturn, 1) := by decide +kernel
theorem d_Model_mode_0 : decode b_Model_mode 0 = .ok (.aload_n 0, 1) := by decide +kernel
theorem d_Model_mode_1 : decode b_Model_mode 1 = .ok (.iconst 0, 1) := by decide +kernel
theorem d_Model_mode_2 : decode b_Model_mode 2 = .ok (.putfield 41, 3) := by decide +kernel
theorem d_Model_mode_5 : decode b_Model_mode 5 = .ok (.iload_n 1, 1) := by decide +kernel
theorem d_Model_mode_6 : decode b_Model_mode 6 = .ok (.ifCond .lt 8, 3) := by decide +kernel
theorem d_Model_mode_9 : decode b_Model_mode 9 = .ok (.iload_n 1, 1) := by decide +kernel
theorem d_Model_mode_10 : decode b_Model_mode 10 = .ok (.iconst 4, 1) := by decide +kernel
theorem d_Model_mode_11 : decode b_Model_mode 11 = .ok (.if_icmp .le 5, 3) := by decide +kernel
theorem d_Model_mode_14 : decode b_Model_mode 14 = .ok (.iconst 0, 1) := by decide +kernel
theorem d_Model_mode_15 : decode b_Model_mode 15 = .ok (.ireturn, 1) := by decide +kernel
theorem d_Model_mode_16 : decode b_Model_mode 16 = .ok (.aload_n 0, 1) := by decide +kernel
theorem d_Model_mode_17 : decode b_Model_mode 17 = .ok (.iload_n 1, 1) := by decide +kernel
theorem d_Model_mode_18 : decode b_Model_mode 18 = .ok (.putfield 44, 3) := by decide +kernel
theorem d_Model_mode_21 : decode b_Model_mode 21 = .ok (.iconst 1, 1) := by decide +kernel
theorem d_Model_mode_22 : decode b_Model_mode 22 = .ok (.ireturn, 1) := by decide +kernel
theorem d_Model_type_0 : decode b_Model_type 0 = .ok (.aload_n 0, 1) := by decide +kernel
theorem d_Model_type_1 : decode b_Model_type 1 = .ok (.iconst 0, 1) := by decide +kernel
theorem d_Model_type_2 : decode b_Model_type 2 = .ok (.putfield 41, 3) := by decide +kernel
theorem d_Model_type_5 : decode b_Model_type 5 = .ok (.iload_n 3, 1) := by decide +kernel
theorem d_Model_type_6 : decode b_Model_type 6 = .ok (.iconst 1, 1) := by decide +kernel
theorem d_Model_type_7 : decode b_Model_type 7 = .ok (.if_icmp .lt 20, 3) := by decide +kernel
theorem d_Model_type_10 : decode b_Model_type 10 = .ok (.iload_n 3, 1) := by decide +kernel
theorem d_Model_type_11 : decode b_Model_type 11 = .ok (.bipush 8, 2) := by decide +kernel
theorem d_Model_type_13 : decode b_Model_type 13 = .ok (.if_icmp .gt 14, 3) := by decide +kernel
theorem d_Model_type_16 : decode b_Model_type 16 = .ok (.aload_n 0, 1) := by decide +kernel
theorem d_Model_type_17 : decode b_Model_type 17 = .ok (.getfield 47, 3) := by decide +kernel
theorem d_Model_type_20 : decode b_Model_type 20 = .ok (.iload_n 3, 1) := by decide +kernel
theorem d_Model_type_21 : decode b_Model_type 21 = .ok (.iadd, 1) := by decide +kernel
theorem d_Model_type_22 : decode b_Model_type 22 = .ok (.bipush 60, 2) := by decide +kernel
theorem d_Model_type_24 : decode b_Model_type 24 = .ok (.if_icmp .le 5, 3) := by decide +kernel
theorem d_Model_type_27 : decode b_Model_type 27 = .ok (.iconst 0, 1) := by decide +kernel
theorem d_Model_type_28 : decode b_Model_type 28 = .ok (.ireturn, 1) := by decide +kernel
theorem d_Model_type_29 : decode b_Model_type 29 = .ok (.iconst 0, 1) := by decide +kernel
theorem d_Model_type_30 : decode b_Model_type 30 = .ok (.istore 4, 2) := by decide +kernel
theorem d_Model_type_32 : decode b_Model_type 32 = .ok (.iload 4, 2) := by decide +kernel
theorem d_Model_type_34 : decode b_Model_type 34 = .ok (.iload_n 3, 1) := by decide +kernel
theorem d_Model_type_35 : decode b_Model_type 35 = .ok (.if_icmp .ge 39, 3) := by decide +kernel
theorem d_Model_type_38 : decode b_Model_type 38 = .ok (.lload_n 1, 1) := by decide +kernel
theorem d_Model_type_39 : decode b_Model_type 39 = .ok (.bipush 8, 2) := by decide +kernel
theorem d_Model_type_41 : decode b_Model_type 41 = .ok (.iload 4, 2) := by decide +kernel
theorem d_Model_type_43 : decode b_Model_type 43 = .ok (.imul, 1) := by decide +kernel
theorem d_Model_type_44 : decode b_Model_type 44 = .ok (.lshr, 1) := by decide +kernel
theorem d_Model_type_45 : decode b_Model_type 45 = .ok (.ldc2_w 50, 3) := by decide +kernel
theorem d_Model_type_48 : decode b_Model_type 48 = .ok (.land, 1) := by decide +kernel
theorem d_Model_type_49 : decode b_Model_type 49 = .ok (.l2i, 1) := by decide +kernel
theorem d_Model_type_50 : decode b_Model_type 50 = .ok (.istore 5, 2) := by decide +kernel
theorem d_Model_type_52 : decode b_Model_type 52 = .ok (.iload 5, 2) := by decide +kernel
theorem d_Model_type_54 : decode b_Model_type 54 = .ok (.bipush 33, 2) := by decide +kernel
theorem d_Model_type_56 : decode b_Model_type 56 = .ok (.if_icmp .lt 10, 3) := by decide +kernel
theorem d_Model_type_59 : decode b_Model_type 59 = .ok (.iload 5, 2) := by decide +kernel
theorem d_Model_type_61 : decode b_Model_type 61 = .ok (.bipush 126, 2) := by decide +kernel
theorem d_Model_type_63 : decode b_Model_type 63 = .ok (.if_icmp .le 5, 3) := by decide +kernel
theorem d_Model_type_66 : decode b_Model_type 66 = .ok (.iconst 0, 1) := by decide +kernel
theorem d_Model_type_67 : decode b_Model_type 67 = .ok (.ireturn, 1) := by decide +kernel
theorem d_Model_type_68 : decode b_Model_type 68 = .ok (.iinc 4 1, 3) := by decide +kernel
theorem d_Model_type_71 : decode b_Model_type 71 = .ok (.goto (-39), 3) := by decide +kernel
theorem d_Model_type_74 : decode b_Model_type 74 = .ok (.iload_n 3, 1) := by decide +kernel
theorem d_Model_type_75 : decode b_Model_type 75 = .ok (.iconst 1, 1) := by decide +kernel
theorem d_Model_type_76 : decode b_Model_type 76 = .ok (.isub, 1) := by decide +kernel
theorem d_Model_type_77 : decode b_Model_type 77 = .ok (.istore 4, 2) := by decide +kernel
theorem d_Model_type_79 : decode b_Model_type 79 = .ok (.iload 4, 2) := by decide +kernel
theorem d_Model_type_81 : decode b_Model_type 81 = .ok (.ifCond .lt 40, 3) := by decide +kernel
theorem d_Model_type_84 : decode b_Model_type 84 = .ok (.aload_n 0, 1) := by decide +kernel
theorem d_Model_type_85 : decode b_Model_type 85 = .ok (.getfield 16, 3) := by decide +kernel
theorem d_Model_type_88 : decode b_Model_type 88 = .ok (.aload_n 0, 1) := by decide +kernel
theorem d_Model_type_89 : decode b_Model_type 89 = .ok (.getfield 47, 3) := by decide +kernel
theorem d_Model_type_92 : decode b_Model_type 92 = .ok (.lload_n 1, 1) := by decide +kernel
theorem d_Model_type_93 : decode b_Model_type 93 = .ok (.bipush 8, 2) := by decide +kernel
theorem d_Model_type_95 : decode b_Model_type 95 = .ok (.iload 4, 2) := by decide +kernel
theorem d_Model_type_97 : decode b_Model_type 97 = .ok (.imul, 1) := by decide +kernel
theorem d_Model_type_98 : decode b_Model_type 98 = .ok (.lshr, 1) := by decide +kernel
theorem d_Model_type_99 : decode b_Model_type 99 = .ok (.ldc2_w 50, 3) := by decide +kernel
theorem d_Model_type_102 : decode b_Model_type 102 = .ok (.land, 1) := by decide +kernel
theorem d_Model_type_103 : decode b_Model_type 103 = .ok (.l2i, 1) := by decide +kernel
theorem d_Model_type_104 : decode b_Model_type 104 = .ok (.iastore, 1) := by decide +kernel
theorem d_Model_type_105 : decode b_Model_type 105 = .ok (.aload_n 0, 1) := by decide +kernel
theorem d_Model_type_106 : decode b_Model_type 106 = .ok (.dup, 1) := by decide +kernel
theorem d_Model_type_107 : decode b_Model_type 107 = .ok (.getfield 47, 3) := by decide +kernel
theorem d_Model_type_110 : decode b_Model_type 110 = .ok (.iconst 1, 1) := by decide +kernel
theorem d_Model_type_111 : decode b_Model_type 111 = .ok (.iadd, 1) := by decide +kernel
theorem d_Model_type_112 : decode b_Model_type 112 = .ok (.putfield 47, 3) := by decide +kernel
theorem d_Model_type_115 : decode b_Model_type 115 = .ok (.iinc 4 (-1), 3) := by decide +kernel
theorem d_Model_type_118 : decode b_Model_type 118 = .ok (.goto (-39), 3) := by decide +kernel
theorem d_Model_type_121 : decode b_Model_type 121 = .ok (.iconst 1, 1) := by decide +kernel
theorem d_Model_type_122 : decode b_Model_type 122 = .ok (.ireturn, 1) := by decide +kernel
theorem d_Model_flags_0 : decode b_Model_flags 0 = .ok (.aload_n 0, 1) := by decide +kernel
theorem d_Model_flags_1 : decode b_Model_flags 1 = .ok (.iconst 0, 1) := by decide +kernel
theorem d_Model_flags_2 : decode b_Model_flags 2 = .ok (.putfield 41, 3) := by decide +kernel
theorem d_Model_flags_5 : decode b_Model_flags 5 = .ok (.aload_n 0, 1) := by decide +kernel
theorem d_Model_flags_6 : decode b_Model_flags 6 = .ok (.getfield 52, 3) := by decide +kernel
theorem d_Model_flags_9 : decode b_Model_flags 9 = .ok (.ireturn, 1) := by decide +kernel
theorem d_Model_clear_0 : decode b_Model_clear 0 = .ok (.aload_n 0, 1) := by decide +kernel
theorem d_Model_clear_1 : decode b_Model_clear 1 = .ok (.iconst 0, 1) := by decide +kernel
theorem d_Model_clear_2 : decode b_Model_clear 2 = .ok (.putfield 41, 3) := by decide +kernel
theorem d_Model_clear_5 : decode b_Model_clear 5 = .ok (.aload_n 0, 1) := by decide +kernel
theorem d_Model_clear_6 : decode b_Model_clear 6 = .ok (.getfield 52, 3) := by decide +kernel
theorem d_Model_clear_9 : decode b_Model_clear 9 = .ok (.istore_n 2, 1) := by decide +kernel
theorem d_Model_clear_10 : decode b_Model_clear 10 = .ok (.aload_n 0, 1) := by decide +kernel
theorem d_Model_clear_11 : decode b_Model_clear 11 = .ok (.aload_n 0, 1) := by decide +kernel
theorem d_Model_clear_12 : decode b_Model_clear 12 = .ok (.getfield 52, 3) := by decide +kernel
theorem d_Model_clear_15 : decode b_Model_clear 15 = .ok (.iload_n 1, 1) := by decide +kernel
theorem d_Model_clear_16 : decode b_Model_clear 16 = .ok (.iconst (-1), 1) := by decide +kernel
theorem d_Model_clear_17 : decode b_Model_clear 17 = .ok (.ixor, 1) := by decide +kernel
theorem d_Model_clear_18 : decode b_Model_clear 18 = .ok (.iand, 1) := by decide +kernel
theorem d_Model_clear_19 : decode b_Model_clear 19 = .ok (.putfield 52, 3) := by decide +kernel
theorem d_Model_clear_22 : decode b_Model_clear 22 = .ok (.iload_n 2, 1) := by decide +kernel
theorem d_Model_clear_23 : decode b_Model_clear 23 = .ok (.ireturn, 1) := by decide +kernel
theorem d_Model_wipe_0 : decode b_Model_wipe 0 = .ok (.iconst 0, 1) := by decide +kernel
theorem d_Model_wipe_1 : decode b_Model_wipe 1 = .ok (.istore_n 1, 1) := by decide +kernel
theorem d_Model_wipe_2 : decode b_Model_wipe 2 = .ok (.iload_n 1, 1) := by decide +kernel
theorem d_Model_wipe_3 : decode b_Model_wipe 3 = .ok (.sipush 400, 3) := by decide +kernel
theorem d_Model_wipe_6 : decode b_Model_wipe 6 = .ok (.if_icmp .ge 16, 3) := by decide +kernel
theorem d_Model_wipe_9 : decode b_Model_wipe 9 = .ok (.aload_n 0, 1) := by decide +kernel
theorem d_Model_wipe_10 : decode b_Model_wipe 10 = .ok (.getfield 23, 3) := by decide +kernel
theorem d_Model_wipe_13 : decode b_Model_wipe 13 = .ok (.iload_n 1, 1) := by decide +kernel
theorem d_Model_wipe_14 : decode b_Model_wipe 14 = .ok (.iconst 0, 1) := by decide +kernel
theorem d_Model_wipe_15 : decode b_Model_wipe 15 = .ok (.iastore, 1) := by decide +kernel
theorem d_Model_wipe_16 : decode b_Model_wipe 16 = .ok (.iinc 1 1, 3) := by decide +kernel
theorem d_Model_wipe_19 : decode b_Model_wipe 19 = .ok (.goto (-17), 3) := by decide +kernel
theorem d_Model_wipe_22 : decode b_Model_wipe 22 = .ok (.aload_n 0, 1) := by decide +kernel
theorem d_Model_wipe_23 : decode b_Model_wipe 23 = .ok (.bipush 60, 2) := by decide +kernel
theorem d_Model_wipe_25 : decode b_Model_wipe 25 = .ok (.putfield 26, 3) := by decide +kernel
theorem d_Model_wipe_28 : decode b_Model_wipe 28 = .ok (.aload_n 0, 1) := by decide +kernel
theorem d_Model_wipe_29 : decode b_Model_wipe 29 = .ok (.bipush 60, 2) := by decide +kernel
theorem d_Model_wipe_31 : decode b_Model_wipe 31 = .ok (.putfield 29, 3) := by decide +kernel
theorem d_Model_wipe_34 : decode b_Model_wipe 34 = .ok (.return_, 1) := by decide +kernel
theorem d_Model_dig_0 : decode b_Model_dig 0 = .ok (.aload_n 0, 1) := by decide +kernel
theorem d_Model_dig_1 : decode b_Model_dig 1 = .ok (.getfield 23, 3) := by decide +kernel
theorem d_Model_dig_4 : decode b_Model_dig 4 = .ok (.iload_n 1, 1) := by decide +kernel
theorem d_Model_dig_5 : decode b_Model_dig 5 = .ok (.iload_n 2, 1) := by decide +kernel
theorem d_Model_dig_6 : decode b_Model_dig 6 = .ok (.iastore, 1) := by decide +kernel
theorem d_Model_dig_7 : decode b_Model_dig 7 = .ok (.iload_n 2, 1) := by decide +kernel
theorem d_Model_dig_8 : decode b_Model_dig 8 = .ok (.ifCond .le 16, 3) := by decide +kernel
theorem d_Model_dig_11 : decode b_Model_dig 11 = .ok (.iload_n 1, 1) := by decide +kernel
theorem d_Model_dig_12 : decode b_Model_dig 12 = .ok (.aload_n 0, 1) := by decide +kernel
theorem d_Model_dig_13 : decode b_Model_dig 13 = .ok (.getfield 26, 3) := by decide +kernel
theorem d_Model_dig_16 : decode b_Model_dig 16 = .ok (.if_icmp .ge 8, 3) := by decide +kernel
theorem d_Model_dig_19 : decode b_Model_dig 19 = .ok (.aload_n 0, 1) := by decide +kernel
theorem d_Model_dig_20 : decode b_Model_dig 20 = .ok (.iload_n 1, 1) := by decide +kernel
theorem d_Model_dig_21 : decode b_Model_dig 21 = .ok (.putfield 26, 3) := by decide +kernel
theorem d_Model_dig_24 : decode b_Model_dig 24 = .ok (.iload_n 2, 1) := by decide +kernel
theorem d_Model_dig_25 : decode b_Model_dig 25 = .ok (.ifCond .le 16, 3) := by decide +kernel
theorem d_Model_dig_28 : decode b_Model_dig 28 = .ok (.iload_n 1, 1) := by decide +kernel
theorem d_Model_dig_29 : decode b_Model_dig 29 = .ok (.aload_n 0, 1) := by decide +kernel
theorem d_Model_dig_30 : decode b_Model_dig 30 = .ok (.getfield 29, 3) := by decide +kernel
theorem d_Model_dig_33 : decode b_Model_dig 33 = .ok (.if_icmp .le 8, 3) := by decide +kernel
theorem d_Model_dig_36 : decode b_Model_dig 36 = .ok (.aload_n 0, 1) := by decide +kernel
theorem d_Model_dig_37 : decode b_Model_dig 37 = .ok (.iload_n 1, 1) := by decide +kernel
theorem d_Model_dig_38 : decode b_Model_dig 38 = .ok (.putfield 29, 3) := by decide +kernel
theorem d_Model_dig_41 : decode b_Model_dig 41 = .ok (.return_, 1) := by decide +kernel
theorem d_Model_twice_0 : decode b_Model_twice 0 = .ok (.iconst 0, 1) := by decide +kernel
theorem d_Model_twice_1 : decode b_Model_twice 1 = .ok (.istore_n 1, 1) := by decide +kernel
theorem d_Model_twice_2 : decode b_Model_twice 2 = .ok (.aload_n 0, 1) := by decide +kernel
theorem d_Model_twice_3 : decode b_Model_twice 3 = .ok (.getfield 29, 3) := by decide +kernel
theorem d_Model_twice_6 : decode b_Model_twice 6 = .ok (.istore_n 2, 1) := by decide +kernel
theorem d_Model_twice_7 : decode b_Model_twice 7 = .ok (.iload_n 2, 1) := by decide +kernel
theorem d_Model_twice_8 : decode b_Model_twice 8 = .ok (.aload_n 0, 1) := by decide +kernel
theorem d_Model_twice_9 : decode b_Model_twice 9 = .ok (.getfield 26, 3) := by decide +kernel
theorem d_Model_twice_12 : decode b_Model_twice 12 = .ok (.if_icmp .lt 35, 3) := by decide +kernel
theorem d_Model_twice_15 : decode b_Model_twice 15 = .ok (.iconst 2, 1) := by decide +kernel
theorem d_Model_twice_16 : decode b_Model_twice 16 = .ok (.aload_n 0, 1) := by decide +kernel
theorem d_Model_twice_17 : decode b_Model_twice 17 = .ok (.getfield 23, 3) := by decide +kernel
theorem d_Model_twice_20 : decode b_Model_twice 20 = .ok (.iload_n 2, 1) := by decide +kernel
theorem d_Model_twice_21 : decode b_Model_twice 21 = .ok (.iaload, 1) := by decide +kernel
theorem d_Model_twice_22 : decode b_Model_twice 22 = .ok (.imul, 1) := by decide +kernel
theorem d_Model_twice_23 : decode b_Model_twice 23 = .ok (.iload_n 1, 1) := by decide +kernel
theorem d_Model_twice_24 : decode b_Model_twice 24 = .ok (.iadd, 1) := by decide +kernel
theorem d_Model_twice_25 : decode b_Model_twice 25 = .ok (.istore_n 3, 1) := by decide +kernel
theorem d_Model_twice_26 : decode b_Model_twice 26 = .ok (.aload_n 0, 1) := by decide +kernel
theorem d_Model_twice_27 : decode b_Model_twice 27 = .ok (.getfield 23, 3) := by decide +kernel
theorem d_Model_twice_30 : decode b_Model_twice 30 = .ok (.iload_n 2, 1) := by decide +kernel
theorem d_Model_twice_31 : decode b_Model_twice 31 = .ok (.iload_n 3, 1) := by decide +kernel
theorem d_Model_twice_32 : decode b_Model_twice 32 = .ok (.bipush 10, 2) := by decide +kernel
theorem d_Model_twice_34 : decode b_Model_twice 34 = .ok (.irem, 1) := by decide +kernel
theorem d_Model_twice_35 : decode b_Model_twice 35 = .ok (.iastore, 1) := by decide +kernel
theorem d_Model_twice_36 : decode b_Model_twice 36 = .ok (.iload_n 3, 1) := by decide +kernel
theorem d_Model_twice_37 : decode b_Model_twice 37 = .ok (.bipush 10, 2) := by decide +kernel
theorem d_Model_twice_39 : decode b_Model_twice 39 = .ok (.idiv, 1) := by decide +kernel
theorem d_Model_twice_40 : decode b_Model_twice 40 = .ok (.istore_n 1, 1) := by decide +kernel
theorem d_Model_twice_41 : decode b_Model_twice 41 = .ok (.iinc 2 (-1), 3) := by decide +kernel
theorem d_Model_twice_44 : decode b_Model_twice 44 = .ok (.goto (-37), 3) := by decide +kernel
theorem d_Model_twice_47 : decode b_Model_twice 47 = .ok (.iload_n 1, 1) := by decide +kernel
theorem d_Model_twice_48 : decode b_Model_twice 48 = .ok (.ifCond .le 23, 3) := by decide +kernel
theorem d_Model_twice_51 : decode b_Model_twice 51 = .ok (.aload_n 0, 1) := by decide +kernel
theorem d_Model_twice_52 : decode b_Model_twice 52 = .ok (.dup, 1) := by decide +kernel
theorem d_Model_twice_53 : decode b_Model_twice 53 = .ok (.getfield 26, 3) := by decide +kernel
theorem d_Model_twice_56 : decode b_Model_twice 56 = .ok (.iconst 1, 1) := by decide +kernel
theorem d_Model_twice_57 : decode b_Model_twice 57 = .ok (.isub, 1) := by decide +kernel
theorem d_Model_twice_58 : decode b_Model_twice 58 = .ok (.putfield 26, 3) := by decide +kernel
theorem d_Model_twice_61 : decode b_Model_twice 61 = .ok (.aload_n 0, 1) := by decide +kernel
theorem d_Model_twice_62 : decode b_Model_twice 62 = .ok (.getfield 23, 3) := by decide +kernel
theorem d_Model_twice_65 : decode b_Model_twice 65 = .ok (.aload_n 0, 1) := by decide +kernel
theorem d_Model_twice_66 : decode b_Model_twice 66 = .ok (.getfield 26, 3) := by decide +kernel
theorem d_Model_twice_69 : decode b_Model_twice 69 = .ok (.iload_n 1, 1) := by decide +kernel
theorem d_Model_twice_70 : decode b_Model_twice 70 = .ok (.iastore, 1) := by decide +kernel
theorem d_Model_twice_71 : decode b_Model_twice 71 = .ok (.return_, 1) := by decide +kernel
theorem d_Model_half_0 : decode b_Model_half 0 = .ok (.iconst 0, 1) := by decide +kernel
theorem d_Model_half_1 : decode b_Model_half 1 = .ok (.istore_n 1, 1) := by decide +kernel
theorem d_Model_half_2 : decode b_Model_half 2 = .ok (.aload_n 0, 1) := by decide +kernel
theorem d_Model_half_3 : decode b_Model_half 3 = .ok (.getfield 26, 3) := by decide +kernel
theorem d_Model_half_6 : decode b_Model_half 6 = .ok (.istore_n 2, 1) := by decide +kernel
theorem d_Model_half_7 : decode b_Model_half 7 = .ok (.iload_n 2, 1) := by decide +kernel
theorem d_Model_half_8 : decode b_Model_half 8 = .ok (.aload_n 0, 1) := by decide +kernel
theorem d_Model_half_9 : decode b_Model_half 9 = .ok (.getfield 29, 3) := by decide +kernel
theorem d_Model_half_12 : decode b_Model_half 12 = .ok (.iconst 1, 1) := by decide +kernel
theorem d_Model_half_13 : decode b_Model_half 13 = .ok (.iadd, 1) := by decide +kernel
theorem d_Model_half_14 : decode b_Model_half 14 = .ok (.if_icmp .gt 34, 3) := by decide +kernel
theorem d_Model_half_17 : decode b_Model_half 17 = .ok (.bipush 10, 2) := by decide +kernel
theorem d_Model_half_19 : decode b_Model_half 19 = .ok (.iload_n 1, 1) := by decide +kernel
theorem d_Model_half_20 : decode b_Model_half 20 = .ok (.imul, 1) := by decide +kernel
theorem d_Model_half_21 : decode b_Model_half 21 = .ok (.aload_n 0, 1) := by decide +kernel
theorem d_Model_half_22 : decode b_Model_half 22 = .ok (.getfield 23, 3) := by decide +kernel
theorem d_Model_half_25 : decode b_Model_half 25 = .ok (.iload_n 2, 1) := by decide +kernel
theorem d_Model_half_26 : decode b_Model_half 26 = .ok (.iaload, 1) := by decide +kernel
theorem d_Model_half_27 : decode b_Model_half 27 = .ok (.iadd, 1) := by decide +kernel
theorem d_Model_half_28 : decode b_Model_half 28 = .ok (.istore_n 3, 1) := by decide +kernel
theorem d_Model_half_29 : decode b_Model_half 29 = .ok (.aload_n 0, 1) := by decide +kernel
theorem d_Model_half_30 : decode b_Model_half 30 = .ok (.getfield 23, 3) := by decide +kernel
theorem d_Model_half_33 : decode b_Model_half 33 = .ok (.iload_n 2, 1) := by decide +kernel
theorem d_Model_half_34 : decode b_Model_half 34 = .ok (.iload_n 3, 1) := by decide +kernel
theorem d_Model_half_35 : decode b_Model_half 35 = .ok (.iconst 2, 1) := by decide +kernel
theorem d_Model_half_36 : decode b_Model_half 36 = .ok (.idiv, 1) := by decide +kernel
theorem d_Model_half_37 : decode b_Model_half 37 = .ok (.iastore, 1) := by decide +kernel
theorem d_Model_half_38 : decode b_Model_half 38 = .ok (.iload_n 3, 1) := by decide +kernel
theorem d_Model_half_39 : decode b_Model_half 39 = .ok (.iconst 2, 1) := by decide +kernel
theorem d_Model_half_40 : decode b_Model_half 40 = .ok (.irem, 1) := by decide +kernel
theorem d_Model_half_41 : decode b_Model_half 41 = .ok (.istore_n 1, 1) := by decide +kernel
theorem d_Model_half_42 : decode b_Model_half 42 = .ok (.iinc 2 1, 3) := by decide +kernel
theorem d_Model_half_45 : decode b_Model_half 45 = .ok (.goto (-38), 3) := by decide +kernel
theorem d_Model_half_48 : decode b_Model_half 48 = .ok (.aload_n 0, 1) := by decide +kernel
theorem d_Model_half_49 : decode b_Model_half 49 = .ok (.getfield 23, 3) := by decide +kernel
theorem d_Model_half_52 : decode b_Model_half 52 = .ok (.aload_n 0, 1) := by decide +kernel
theorem d_Model_half_53 : decode b_Model_half 53 = .ok (.getfield 29, 3) := by decide +kernel
theorem d_Model_half_56 : decode b_Model_half 56 = .ok (.iconst 1, 1) := by decide +kernel
theorem d_Model_half_57 : decode b_Model_half 57 = .ok (.iadd, 1) := by decide +kernel
theorem d_Model_half_58 : decode b_Model_half 58 = .ok (.iaload, 1) := by decide +kernel
theorem d_Model_half_59 : decode b_Model_half 59 = .ok (.ifCond .le 13, 3) := by decide +kernel
theorem d_Model_half_62 : decode b_Model_half 62 = .ok (.aload_n 0, 1) := by decide +kernel
theorem d_Model_half_63 : decode b_Model_half 63 = .ok (.dup, 1) := by decide +kernel
theorem d_Model_half_64 : decode b_Model_half 64 = .ok (.getfield 29, 3) := by decide +kernel
theorem d_Model_half_67 : decode b_Model_half 67 = .ok (.iconst 1, 1) := by decide +kernel
theorem d_Model_half_68 : decode b_Model_half 68 = .ok (.iadd, 1) := by decide +kernel
theorem d_Model_half_69 : decode b_Model_half 69 = .ok (.putfield 29, 3) := by decide +kernel
theorem d_Model_half_72 : decode b_Model_half 72 = .ok (.aload_n 0, 1) := by decide +kernel
theorem d_Model_half_73 : decode b_Model_half 73 = .ok (.getfield 26, 3) := by decide +kernel
theorem d_Model_half_76 : decode b_Model_half 76 = .ok (.bipush 60, 2) := by decide +kernel
theorem d_Model_half_78 : decode b_Model_half 78 = .ok (.if_icmp .ge 28, 3) := by decide +kernel
theorem d_Model_half_81 : decode b_Model_half 81 = .ok (.aload_n 0, 1) := by decide +kernel
theorem d_Model_half_82 : decode b_Model_half 82 = .ok (.getfield 23, 3) := by decide +kernel
theorem d_Model_half_85 : decode b_Model_half 85 = .ok (.aload_n 0, 1) := by decide +kernel
theorem d_Model_half_86 : decode b_Model_half 86 = .ok (.getfield 26, 3) := by decide +kernel
theorem d_Model_half_89 : decode b_Model_half 89 = .ok (.iaload, 1) := by decide +kernel
theorem d_Model_half_90 : decode b_Model_half 90 = .ok (.ifCond .ne 16, 3) := by decide +kernel
theorem d_Model_half_93 : decode b_Model_half 93 = .ok (.aload_n 0, 1) := by decide +kernel
theorem d_Model_half_94 : decode b_Model_half 94 = .ok (.dup, 1) := by decide +kernel
theorem d_Model_half_95 : decode b_Model_half 95 = .ok (.getfield 26, 3) := by decide +kernel
theorem d_Model_half_98 : decode b_Model_half 98 = .ok (.iconst 1, 1) := by decide +kernel
theorem d_Model_half_99 : decode b_Model_half 99 = .ok (.iadd, 1) := by decide +kernel
theorem d_Model_half_100 : decode b_Model_half 100 = .ok (.putfield 26, 3) := by decide +kernel
theorem d_Model_half_103 : decode b_Model_half 103 = .ok (.goto (-31), 3) := by decide +kernel
theorem d_Model_half_106 : decode b_Model_half 106 = .ok (.return_, 1) := by decide +kernel
theorem d_Model_ahead_0 : decode b_Model_ahead 0 = .ok (.aload_n 0, 1) := by decide +kernel
theorem d_Model_ahead_1 : decode b_Model_ahead 1 = .ok (.getfield 26, 3) := by decide +kernel
theorem d_Model_ahead_4 : decode b_Model_ahead 4 = .ok (.bipush 60, 2) := by decide +kernel
theorem d_Model_ahead_6 : decode b_Model_ahead 6 = .ok (.if_icmp .lt 14, 3) := by decide +kernel
theorem d_Model_ahead_9 : decode b_Model_ahead 9 = .ok (.aload_n 0, 1) := by decide +kernel
theorem d_Model_ahead_10 : decode b_Model_ahead 10 = .ok (.getfield 23, 3) := by decide +kernel
theorem d_Model_ahead_13 : decode b_Model_ahead 13 = .ok (.bipush 60, 2) := by decide +kernel
theorem d_Model_ahead_15 : decode b_Model_ahead 15 = .ok (.iaload, 1) := by decide +kernel
theorem d_Model_ahead_16 : decode b_Model_ahead 16 = .ok (.iconst 1, 1) := by decide +kernel
theorem d_Model_ahead_17 : decode b_Model_ahead 17 = .ok (.if_icmp .le 7, 3) := by decide +kernel
theorem d_Model_ahead_20 : decode b_Model_ahead 20 = .ok (.iconst 2, 1) := by decide +kernel
theorem d_Model_ahead_21 : decode b_Model_ahead 21 = .ok (.goto 10, 3) := by decide +kernel
theorem d_Model_ahead_24 : decode b_Model_ahead 24 = .ok (.aload_n 0, 1) := by decide +kernel
theorem d_Model_ahead_25 : decode b_Model_ahead 25 = .ok (.getfield 23, 3) := by decide +kernel
theorem d_Model_ahead_28 : decode b_Model_ahead 28 = .ok (.bipush 60, 2) := by decide +kernel
theorem d_Model_ahead_30 : decode b_Model_ahead 30 = .ok (.iaload, 1) := by decide +kernel
theorem d_Model_ahead_31 : decode b_Model_ahead 31 = .ok (.ireturn, 1) := by decide +kernel
theorem d_Model_behind_0 : decode b_Model_behind 0 = .ok (.iconst 0, 1) := by decide +kernel
theorem d_Model_behind_1 : decode b_Model_behind 1 = .ok (.istore_n 1, 1) := by decide +kernel
theorem d_Model_behind_2 : decode b_Model_behind 2 = .ok (.bipush 62, 2) := by decide +kernel
theorem d_Model_behind_4 : decode b_Model_behind 4 = .ok (.istore_n 2, 1) := by decide +kernel
theorem d_Model_behind_5 : decode b_Model_behind 5 = .ok (.iload_n 2, 1) := by decide +kernel
theorem d_Model_behind_6 : decode b_Model_behind 6 = .ok (.aload_n 0, 1) := by decide +kernel
theorem d_Model_behind_7 : decode b_Model_behind 7 = .ok (.getfield 29, 3) := by decide +kernel
theorem d_Model_behind_10 : decode b_Model_behind 10 = .ok (.if_icmp .gt 28, 3) := by decide +kernel
theorem d_Model_behind_13 : decode b_Model_behind 13 = .ok (.iload_n 1, 1) := by decide +kernel
theorem d_Model_behind_14 : decode b_Model_behind 14 = .ok (.ifCond .ne 24, 3) := by decide +kernel
theorem d_Model_behind_17 : decode b_Model_behind 17 = .ok (.aload_n 0, 1) := by decide +kernel
theorem d_Model_behind_18 : decode b_Model_behind 18 = .ok (.getfield 23, 3) := by decide +kernel
theorem d_Model_behind_21 : decode b_Model_behind 21 = .ok (.iload_n 2, 1) := by decide +kernel
theorem d_Model_behind_22 : decode b_Model_behind 22 = .ok (.iaload, 1) := by decide +kernel
theorem d_Model_behind_23 : decode b_Model_behind 23 = .ok (.ifCond .le 7, 3) := by decide +kernel
theorem d_Model_behind_26 : decode b_Model_behind 26 = .ok (.iconst 1, 1) := by decide +kernel
theorem d_Model_behind_27 : decode b_Model_behind 27 = .ok (.goto 4, 3) := by decide +kernel
theorem d_Model_behind_30 : decode b_Model_behind 30 = .ok (.iconst 0, 1) := by decide +kernel
theorem d_Model_behind_31 : decode b_Model_behind 31 = .ok (.istore_n 1, 1) := by decide +kernel
theorem d_Model_behind_32 : decode b_Model_behind 32 = .ok (.iinc 2 1, 3) := by decide +kernel
theorem d_Model_behind_35 : decode b_Model_behind 35 = .ok (.goto (-30), 3) := by decide +kernel
theorem d_Model_behind_38 : decode b_Model_behind 38 = .ok (.aload_n 0, 1) := by decide +kernel
theorem d_Model_behind_39 : decode b_Model_behind 39 = .ok (.getfield 23, 3) := by decide +kernel
theorem d_Model_behind_42 : decode b_Model_behind 42 = .ok (.bipush 61, 2) := by decide +kernel
theorem d_Model_behind_44 : decode b_Model_behind 44 = .ok (.iaload, 1) := by decide +kernel
theorem d_Model_behind_45 : decode b_Model_behind 45 = .ok (.istore_n 2, 1) := by decide +kernel
theorem d_Model_behind_46 : decode b_Model_behind 46 = .ok (.iload_n 2, 1) := by decide +kernel
theorem d_Model_behind_47 : decode b_Model_behind 47 = .ok (.iconst 5, 1) := by decide +kernel
theorem d_Model_behind_48 : decode b_Model_behind 48 = .ok (.if_icmp .ne 13, 3) := by decide +kernel
theorem d_Model_behind_51 : decode b_Model_behind 51 = .ok (.iload_n 1, 1) := by decide +kernel
theorem d_Model_behind_52 : decode b_Model_behind 52 = .ok (.ifCond .eq 7, 3) := by decide +kernel
theorem d_Model_behind_55 : decode b_Model_behind 55 = .ok (.iconst 3, 1) := by decide +kernel
theorem d_Model_behind_56 : decode b_Model_behind 56 = .ok (.goto 4, 3) := by decide +kernel
theorem d_Model_behind_59 : decode b_Model_behind 59 = .ok (.iconst 2, 1) := by decide +kernel
theorem d_Model_behind_60 : decode b_Model_behind 60 = .ok (.ireturn, 1) := by decide +kernel
theorem d_Model_behind_61 : decode b_Model_behind 61 = .ok (.iload_n 2, 1) := by decide +kernel
theorem d_Model_behind_62 : decode b_Model_behind 62 = .ok (.iconst 5, 1) := by decide +kernel
theorem d_Model_behind_63 : decode b_Model_behind 63 = .ok (.if_icmp .le 7, 3) := by decide +kernel
theorem d_Model_behind_66 : decode b_Model_behind 66 = .ok (.iconst 3, 1) := by decide +kernel
theorem d_Model_behind_67 : decode b_Model_behind 67 = .ok (.goto 16, 3) := by decide +kernel
theorem d_Model_behind_70 : decode b_Model_behind 70 = .ok (.iload_n 2, 1) := by decide +kernel
theorem d_Model_behind_71 : decode b_Model_behind 71 = .ok (.ifCond .gt 7, 3) := by decide +kernel
theorem d_Model_behind_74 : decode b_Model_behind 74 = .ok (.iload_n 1, 1) := by decide +kernel
theorem d_Model_behind_75 : decode b_Model_behind 75 = .ok (.ifCond .eq 7, 3) := by decide +kernel
theorem d_Model_behind_78 : decode b_Model_behind 78 = .ok (.iconst 1, 1) := by decide +kernel
theorem d_Model_behind_79 : decode b_Model_behind 79 = .ok (.goto 4, 3) := by decide +kernel
theorem d_Model_behind_82 : decode b_Model_behind 82 = .ok (.iconst 0, 1) := by decide +kernel
theorem d_Model_behind_83 : decode b_Model_behind 83 = .ok (.ireturn, 1) := by decide +kernel
theorem d_Model_bias_0 : decode b_Model_bias 0 = .ok (.iconst 1, 1) := by decide +kernel
theorem d_Model_bias_1 : decode b_Model_bias 1 = .ok (.aload_n 0, 1) := by decide +kernel
theorem d_Model_bias_2 : decode b_Model_bias 2 = .ok (.getfield 7, 3) := by decide +kernel
theorem d_Model_bias_5 : decode b_Model_bias 5 = .ok (.iconst 1, 1) := by decide +kernel
theorem d_Model_bias_6 : decode b_Model_bias 6 = .ok (.isub, 1) := by decide +kernel
theorem d_Model_bias_7 : decode b_Model_bias 7 = .ok (.ishl, 1) := by decide +kernel
theorem d_Model_bias_8 : decode b_Model_bias 8 = .ok (.iconst 1, 1) := by decide +kernel
theorem d_Model_bias_9 : decode b_Model_bias 9 = .ok (.isub, 1) := by decide +kernel
theorem d_Model_bias_10 : decode b_Model_bias 10 = .ok (.ireturn, 1) := by decide +kernel
theorem d_Model_beyond_0 : decode b_Model_beyond 0 = .ok (.lconst 1, 1) := by decide +kernel
theorem d_Model_beyond_1 : decode b_Model_beyond 1 = .ok (.aload_n 0, 1) := by decide +kernel
theorem d_Model_beyond_2 : decode b_Model_beyond 2 = .ok (.getfield 7, 3) := by decide +kernel
theorem d_Model_beyond_5 : decode b_Model_beyond 5 = .ok (.lshl, 1) := by decide +kernel
theorem d_Model_beyond_6 : decode b_Model_beyond 6 = .ok (.lconst 1, 1) := by decide +kernel
theorem d_Model_beyond_7 : decode b_Model_beyond 7 = .ok (.lsub, 1) := by decide +kernel
theorem d_Model_beyond_8 : decode b_Model_beyond 8 = .ok (.aload_n 0, 1) := by decide +kernel
theorem d_Model_beyond_9 : decode b_Model_beyond 9 = .ok (.getfield 13, 3) := by decide +kernel
theorem d_Model_beyond_12 : decode b_Model_beyond 12 = .ok (.lshl, 1) := by decide +kernel
theorem d_Model_beyond_13 : decode b_Model_beyond 13 = .ok (.lreturn, 1) := by decide +kernel
theorem d_Model_goesUp_0 : decode b_Model_goesUp 0 = .ok (.iload_n 2, 1) := by decide +kernel
theorem d_Model_goesUp_1 : decode b_Model_goesUp 1 = .ok (.tableswitch 89 0 3 #[31, 57, 59, 74], 31) := by decide +kernel
theorem d_Model_goesUp_32 : decode b_Model_goesUp 32 = .ok (.iload 5, 2) := by decide +kernel
theorem d_Model_goesUp_34 : decode b_Model_goesUp 34 = .ok (.iconst 3, 1) := by decide +kernel
theorem d_Model_goesUp_35 : decode b_Model_goesUp 35 = .ok (.if_icmp .eq 17, 3) := by decide +kernel
theorem d_Model_goesUp_38 : decode b_Model_goesUp 38 = .ok (.iload 5, 2) := by decide +kernel
theorem d_Model_goesUp_40 : decode b_Model_goesUp 40 = .ok (.iconst 2, 1) := by decide +kernel
theorem d_Model_goesUp_41 : decode b_Model_goesUp 41 = .ok (.if_icmp .ne 15, 3) := by decide +kernel
theorem d_Model_goesUp_44 : decode b_Model_goesUp 44 = .ok (.lload_n 3, 1) := by decide +kernel
theorem d_Model_goesUp_45 : decode b_Model_goesUp 45 = .ok (.lconst 1, 1) := by decide +kernel
theorem d_Model_goesUp_46 : decode b_Model_goesUp 46 = .ok (.land, 1) := by decide +kernel
theorem d_Model_goesUp_47 : decode b_Model_goesUp 47 = .ok (.lconst 1, 1) := by decide +kernel
theorem d_Model_goesUp_48 : decode b_Model_goesUp 48 = .ok (.lcmp, 1) := by decide +kernel
theorem d_Model_goesUp_49 : decode b_Model_goesUp 49 = .ok (.ifCond .ne 7, 3) := by decide +kernel
theorem d_Model_goesUp_52 : decode b_Model_goesUp 52 = .ok (.iconst 1, 1) := by decide +kernel
theorem d_Model_goesUp_53 : decode b_Model_goesUp 53 = .ok (.goto 4, 3) := by decide +kernel
theorem d_Model_goesUp_56 : decode b_Model_goesUp 56 = .ok (.iconst 0, 1) := by decide +kernel
theorem d_Model_goesUp_57 : decode b_Model_goesUp 57 = .ok (.ireturn, 1) := by decide +kernel
theorem d_Model_goesUp_58 : decode b_Model_goesUp 58 = .ok (.iconst 0, 1) := by decide +kernel
theorem d_Model_goesUp_59 : decode b_Model_goesUp 59 = .ok (.ireturn, 1) := by decide +kernel
theorem d_Model_goesUp_60 : decode b_Model_goesUp 60 = .ok (.iload 5, 2) := by decide +kernel
theorem d_Model_goesUp_62 : decode b_Model_goesUp 62 = .ok (.ifCond .le 11, 3) := by decide +kernel
theorem d_Model_goesUp_65 : decode b_Model_goesUp 65 = .ok (.iload_n 1, 1) := by decide +kernel
theorem d_Model_goesUp_66 : decode b_Model_goesUp 66 = .ok (.ifCond .ne 7, 3) := by decide +kernel
theorem d_Model_goesUp_69 : decode b_Model_goesUp 69 = .ok (.iconst 1, 1) := by decide +kernel
theorem d_Model_goesUp_70 : decode b_Model_goesUp 70 = .ok (.goto 4, 3) := by decide +kernel
theorem d_Model_goesUp_73 : decode b_Model_goesUp 73 = .ok (.iconst 0, 1) := by decide +kernel
theorem d_Model_goesUp_74 : decode b_Model_goesUp 74 = .ok (.ireturn, 1) := by decide +kernel
theorem d_Model_goesUp_75 : decode b_Model_goesUp 75 = .ok (.iload 5, 2) := by decide +kernel
theorem d_Model_goesUp_77 : decode b_Model_goesUp 77 = .ok (.ifCond .le 11, 3) := by decide +kernel
theorem d_Model_goesUp_80 : decode b_Model_goesUp 80 = .ok (.iload_n 1, 1) := by decide +kernel
theorem d_Model_goesUp_81 : decode b_Model_goesUp 81 = .ok (.ifCond .eq 7, 3) := by decide +kernel
theorem d_Model_goesUp_84 : decode b_Model_goesUp 84 = .ok (.iconst 1, 1) := by decide +kernel
theorem d_Model_goesUp_85 : decode b_Model_goesUp 85 = .ok (.goto 4, 3) := by decide +kernel
theorem d_Model_goesUp_88 : decode b_Model_goesUp 88 = .ok (.iconst 0, 1) := by decide +kernel
theorem d_Model_goesUp_89 : decode b_Model_goesUp 89 = .ok (.ireturn, 1) := by decide +kernel
theorem d_Model_goesUp_90 : decode b_Model_goesUp 90 = .ok (.iload 5, 2) := by decide +kernel
theorem d_Model_goesUp_92 : decode b_Model_goesUp 92 = .ok (.iconst 1, 1) := by decide +kernel
theorem d_Model_goesUp_93 : decode b_Model_goesUp 93 = .ok (.if_icmp .le 7, 3) := by decide +kernel
theorem d_Model_goesUp_96 : decode b_Model_goesUp 96 = .ok (.iconst 1, 1) := by decide +kernel
theorem d_Model_goesUp_97 : decode b_Model_goesUp 97 = .ok (.goto 4, 3) := by decide +kernel
theorem d_Model_goesUp_100 : decode b_Model_goesUp 100 = .ok (.iconst 0, 1) := by decide +kernel
theorem d_Model_goesUp_101 : decode b_Model_goesUp 101 = .ok (.ireturn, 1) := by decide +kernel
theorem d_Model_rounded_0 : decode b_Model_rounded 0 = .ok (.iconst 0, 1) := by decide +kernel
theorem d_Model_rounded_1 : decode b_Model_rounded 1 = .ok (.istore_n 3, 1) := by decide +kernel
theorem d_Model_rounded_2 : decode b_Model_rounded 2 = .ok (.iconst 1, 1) := by decide +kernel
theorem d_Model_rounded_3 : decode b_Model_rounded 3 = .ok (.aload_n 0, 1) := by decide +kernel
theorem d_Model_rounded_4 : decode b_Model_rounded 4 = .ok (.invokevirtual 55, 3) := by decide +kernel
theorem d_Model_rounded_7 : decode b_Model_rounded 7 = .ok (.isub, 1) := by decide +kernel
theorem d_Model_rounded_8 : decode b_Model_rounded 8 = .ok (.istore 4, 2) := by decide +kernel
theorem d_Model_rounded_10 : decode b_Model_rounded 10 = .ok (.aload_n 0, 1) := by decide +kernel
theorem d_Model_rounded_11 : decode b_Model_rounded 11 = .ok (.invokevirtual 59, 3) := by decide +kernel
theorem d_Model_rounded_14 : decode b_Model_rounded 14 = .ok (.iconst 2, 1) := by decide +kernel
theorem d_Model_rounded_15 : decode b_Model_rounded 15 = .ok (.if_icmp .ne 13, 3) := by decide +kernel
theorem d_Model_rounded_18 : decode b_Model_rounded 18 = .ok (.aload_n 0, 1) := by decide +kernel
theorem d_Model_rounded_19 : decode b_Model_rounded 19 = .ok (.invokevirtual 62, 3) := by decide +kernel
theorem d_Model_rounded_22 : decode b_Model_rounded 22 = .ok (.iinc 3 1, 3) := by decide +kernel
theorem d_Model_rounded_25 : decode b_Model_rounded 25 = .ok (.goto (-15), 3) := by decide +kernel
theorem d_Model_rounded_28 : decode b_Model_rounded 28 = .ok (.aload_n 0, 1) := by decide +kernel
theorem d_Model_rounded_29 : decode b_Model_rounded 29 = .ok (.invokevirtual 59, 3) := by decide +kernel
theorem d_Model_rounded_32 : decode b_Model_rounded 32 = .ok (.ifCond .ne 19, 3) := by decide +kernel
theorem d_Model_rounded_35 : decode b_Model_rounded 35 = .ok (.iload_n 3, 1) := by decide +kernel
theorem d_Model_rounded_36 : decode b_Model_rounded 36 = .ok (.iload 4, 2) := by decide +kernel
theorem d_Model_rounded_38 : decode b_Model_rounded 38 = .ok (.if_icmp .le 13, 3) := by decide +kernel
theorem d_Model_rounded_41 : decode b_Model_rounded 41 = .ok (.aload_n 0, 1) := by decide +kernel
theorem d_Model_rounded_42 : decode b_Model_rounded 42 = .ok (.invokevirtual 65, 3) := by decide +kernel
theorem d_Model_rounded_45 : decode b_Model_rounded 45 = .ok (.iinc 3 (-1), 3) := by decide +kernel
theorem d_Model_rounded_48 : decode b_Model_rounded 48 = .ok (.goto (-20), 3) := by decide +kernel
theorem d_Model_rounded_51 : decode b_Model_rounded 51 = .ok (.aload_n 0, 1) := by decide +kernel
theorem d_Model_rounded_52 : decode b_Model_rounded 52 = .ok (.invokevirtual 59, 3) := by decide +kernel
theorem d_Model_rounded_55 : decode b_Model_rounded 55 = .ok (.i2l, 1) := by decide +kernel
theorem d_Model_rounded_56 : decode b_Model_rounded 56 = .ok (.lstore 5, 2) := by decide +kernel
theorem d_Model_rounded_58 : decode b_Model_rounded 58 = .ok (.aload_n 0, 1) := by decide +kernel
theorem d_Model_rounded_59 : decode b_Model_rounded 59 = .ok (.lload 5, 2) := by decide +kernel
theorem d_Model_rounded_61 : decode b_Model_rounded 61 = .ok (.lconst 0, 1) := by decide +kernel
theorem d_Model_rounded_62 : decode b_Model_rounded 62 = .ok (.lcmp, 1) := by decide +kernel
theorem d_Model_rounded_63 : decode b_Model_rounded 63 = .ok (.ifCond .ne 7, 3) := by decide +kernel
theorem d_Model_rounded_66 : decode b_Model_rounded 66 = .ok (.iconst 1, 1) := by decide +kernel
theorem d_Model_rounded_67 : decode b_Model_rounded 67 = .ok (.goto 4, 3) := by decide +kernel
theorem d_Model_rounded_70 : decode b_Model_rounded 70 = .ok (.iconst 0, 1) := by decide +kernel
theorem d_Model_rounded_71 : decode b_Model_rounded 71 = .ok (.putfield 68, 3) := by decide +kernel
theorem d_Model_rounded_74 : decode b_Model_rounded 74 = .ok (.aload_n 0, 1) := by decide +kernel
theorem d_Model_rounded_75 : decode b_Model_rounded 75 = .ok (.getfield 23, 3) := by decide +kernel
theorem d_Model_rounded_78 : decode b_Model_rounded 78 = .ok (.bipush 60, 2) := by decide +kernel
theorem d_Model_rounded_80 : decode b_Model_rounded 80 = .ok (.iconst 0, 1) := by decide +kernel
theorem d_Model_rounded_81 : decode b_Model_rounded 81 = .ok (.iastore, 1) := by decide +kernel
theorem d_Model_rounded_82 : decode b_Model_rounded 82 = .ok (.iconst 0, 1) := by decide +kernel
theorem d_Model_rounded_83 : decode b_Model_rounded 83 = .ok (.istore 7, 2) := by decide +kernel
theorem d_Model_rounded_85 : decode b_Model_rounded 85 = .ok (.iload 7, 2) := by decide +kernel
theorem d_Model_rounded_87 : decode b_Model_rounded 87 = .ok (.aload_n 0, 1) := by decide +kernel
theorem d_Model_rounded_88 : decode b_Model_rounded 88 = .ok (.getfield 13, 3) := by decide +kernel
theorem d_Model_rounded_91 : decode b_Model_rounded 91 = .ok (.if_icmp .ge 44, 3) := by decide +kernel
theorem d_Model_rounded_94 : decode b_Model_rounded 94 = .ok (.aload_n 0, 1) := by decide +kernel
theorem d_Model_rounded_95 : decode b_Model_rounded 95 = .ok (.invokevirtual 65, 3) := by decide +kernel
theorem d_Model_rounded_98 : decode b_Model_rounded 98 = .ok (.ldc2_w 72, 3) := by decide +kernel
theorem d_Model_rounded_101 : decode b_Model_rounded 101 = .ok (.lload 5, 2) := by decide +kernel
theorem d_Model_rounded_103 : decode b_Model_rounded 103 = .ok (.lmul, 1) := by decide +kernel
theorem d_Model_rounded_104 : decode b_Model_rounded 104 = .ok (.aload_n 0, 1) := by decide +kernel
theorem d_Model_rounded_105 : decode b_Model_rounded 105 = .ok (.getfield 23, 3) := by decide +kernel
theorem d_Model_rounded_108 : decode b_Model_rounded 108 = .ok (.bipush 60, 2) := by decide +kernel
theorem d_Model_rounded_110 : decode b_Model_rounded 110 = .ok (.iaload, 1) := by decide +kernel
theorem d_Model_rounded_111 : decode b_Model_rounded 111 = .ok (.i2l, 1) := by decide +kernel
theorem d_Model_rounded_112 : decode b_Model_rounded 112 = .ok (.ladd, 1) := by decide +kernel
theorem d_Model_rounded_113 : decode b_Model_rounded 113 = .ok (.lstore 5, 2) := by decide +kernel
theorem d_Model_rounded_115 : decode b_Model_rounded 115 = .ok (.aload_n 0, 1) := by decide +kernel
theorem d_Model_rounded_116 : decode b_Model_rounded 116 = .ok (.getfield 23, 3) := by decide +kernel
theorem d_Model_rounded_119 : decode b_Model_rounded 119 = .ok (.bipush 60, 2) := by decide +kernel
theorem d_Model_rounded_121 : decode b_Model_rounded 121 = .ok (.iconst 0, 1) := by decide +kernel
theorem d_Model_rounded_122 : decode b_Model_rounded 122 = .ok (.iastore, 1) := by decide +kernel
theorem d_Model_rounded_123 : decode b_Model_rounded 123 = .ok (.aload_n 0, 1) := by decide +kernel
theorem d_Model_rounded_124 : decode b_Model_rounded 124 = .ok (.bipush 60, 2) := by decide +kernel
theorem d_Model_rounded_126 : decode b_Model_rounded 126 = .ok (.putfield 26, 3) := by decide +kernel
theorem d_Model_rounded_129 : decode b_Model_rounded 129 = .ok (.iinc 7 1, 3) := by decide +kernel
theorem d_Model_rounded_132 : decode b_Model_rounded 132 = .ok (.goto (-47), 3) := by decide +kernel
theorem d_Model_rounded_135 : decode b_Model_rounded 135 = .ok (.aload_n 0, 1) := by decide +kernel
