theorem d_Finder_choose_98 : decode b_Finder_choose 98 = .ok (.iload_n 1, 1) := by decide +kernel
theorem d_Finder_choose_99 : decode b_Finder_choose 99 = .ok (.ifCond .eq 7, 3) := by decide +kernel
theorem d_Finder_choose_102 : decode b_Finder_choose 102 = .ok (.iload_n 3, 1) := by decide +kernel
theorem d_Finder_choose_103 : decode b_Finder_choose 103 = .ok (.ifCond .eq 13, 3) := by decide +kernel
theorem d_Finder_choose_106 : decode b_Finder_choose 106 = .ok (.aload_n 0, 1) := by decide +kernel
theorem d_Finder_choose_107 : decode b_Finder_choose 107 = .ok (.dup, 1) := by decide +kernel
theorem d_Finder_choose_108 : decode b_Finder_choose 108 = .ok (.getfield 32, 3) := by decide +kernel
theorem d_Finder_choose_111 : decode b_Finder_choose 111 = .ok (.lconst 1, 1) := by decide +kernel
theorem d_Finder_choose_112 : decode b_Finder_choose 112 = .ok (.ladd, 1) := by decide +kernel
theorem d_Finder_choose_113 : decode b_Finder_choose 113 = .ok (.putfield 32, 3) := by decide +kernel
theorem d_Finder_choose_116 : decode b_Finder_choose 116 = .ok (.iload_n 1, 1) := by decide +kernel
theorem d_Finder_choose_117 : decode b_Finder_choose 117 = .ok (.ifCond .ne 7, 3) := by decide +kernel
theorem d_Finder_choose_120 : decode b_Finder_choose 120 = .ok (.iload_n 2, 1) := by decide +kernel
theorem d_Finder_choose_121 : decode b_Finder_choose 121 = .ok (.ifCond .eq 7, 3) := by decide +kernel
theorem d_Finder_choose_124 : decode b_Finder_choose 124 = .ok (.iconst 1, 1) := by decide +kernel
theorem d_Finder_choose_125 : decode b_Finder_choose 125 = .ok (.goto 4, 3) := by decide +kernel
theorem d_Finder_choose_128 : decode b_Finder_choose 128 = .ok (.iconst 0, 1) := by decide +kernel
theorem d_Finder_choose_129 : decode b_Finder_choose 129 = .ok (.ireturn, 1) := by decide +kernel
theorem d_Finder_isWithin_0 : decode b_Finder_isWithin 0 = .ok (.iload_n 1, 1) := by decide +kernel
theorem d_Finder_isWithin_1 : decode b_Finder_isWithin 1 = .ok (.ifCond .lt 14, 3) := by decide +kernel
theorem d_Finder_isWithin_4 : decode b_Finder_isWithin 4 = .ok (.iload_n 1, 1) := by decide +kernel
theorem d_Finder_isWithin_5 : decode b_Finder_isWithin 5 = .ok (.ifCond .ne 14, 3) := by decide +kernel
theorem d_Finder_isWithin_8 : decode b_Finder_isWithin 8 = .ok (.aload_n 0, 1) := by decide +kernel
theorem d_Finder_isWithin_9 : decode b_Finder_isWithin 9 = .ok (.getfield 28, 3) := by decide +kernel
theorem d_Finder_isWithin_12 : decode b_Finder_isWithin 12 = .ok (.ifCond .eq 7, 3) := by decide +kernel
theorem d_Finder_isWithin_15 : decode b_Finder_isWithin 15 = .ok (.iconst 1, 1) := by decide +kernel
theorem d_Finder_isWithin_16 : decode b_Finder_isWithin 16 = .ok (.goto 4, 3) := by decide +kernel
theorem d_Finder_isWithin_19 : decode b_Finder_isWithin 19 = .ok (.iconst 0, 1) := by decide +kernel
theorem d_Finder_isWithin_20 : decode b_Finder_isWithin 20 = .ok (.ireturn, 1) := by decide +kernel
theorem d_Told_init_0 : decode b_Told_init 0 = .ok (.aload_n 0, 1) := by decide +kernel
theorem d_Told_init_1 : decode b_Told_init 1 = .ok (.invokespecial 1, 3) := by decide +kernel
theorem d_Told_init_4 : decode b_Told_init 4 = .ok (.aload_n 0, 1) := by decide +kernel
theorem d_Told_init_5 : decode b_Told_init 5 = .ok (.sipush 160, 3) := by decide +kernel
theorem d_Told_init_8 : decode b_Told_init 8 = .ok (.newarray .byte, 2) := by decide +kernel
theorem d_Told_init_10 : decode b_Told_init 10 = .ok (.putfield 9, 3) := by decide +kernel
theorem d_Told_init_13 : decode b_Told_init 13 = .ok (.aload_n 0, 1) := by decide +kernel
theorem d_Told_init_14 : decode b_Told_init 14 = .ok (.sipush 160, 3) := by decide +kernel
theorem d_Told_init_17 : decode b_Told_init 17 = .ok (.newarray .byte, 2) := by decide +kernel
theorem d_Told_init_19 : decode b_Told_init 19 = .ok (.putfield 13, 3) := by decide +kernel
theorem d_Told_init_22 : decode b_Told_init 22 = .ok (.aload_n 0, 1) := by decide +kernel
theorem d_Told_init_23 : decode b_Told_init 23 = .ok (.iconst 0, 1) := by decide +kernel
theorem d_Told_init_24 : decode b_Told_init 24 = .ok (.putfield 16, 3) := by decide +kernel
theorem d_Told_init_27 : decode b_Told_init 27 = .ok (.return_, 1) := by decide +kernel
theorem d_Told_at_0 : decode b_Told_at 0 = .ok (.iload_n 1, 1) := by decide +kernel
theorem d_Told_at_1 : decode b_Told_at 1 = .ok (.ifCond .lt 19, 3) := by decide +kernel
theorem d_Told_at_4 : decode b_Told_at 4 = .ok (.iload_n 1, 1) := by decide +kernel
theorem d_Told_at_5 : decode b_Told_at 5 = .ok (.sipush 160, 3) := by decide +kernel
theorem d_Told_at_8 : decode b_Told_at 8 = .ok (.if_icmp .ge 12, 3) := by decide +kernel
theorem d_Told_at_11 : decode b_Told_at 11 = .ok (.aload_n 0, 1) := by decide +kernel
theorem d_Told_at_12 : decode b_Told_at 12 = .ok (.getfield 9, 3) := by decide +kernel
theorem d_Told_at_15 : decode b_Told_at 15 = .ok (.iload_n 1, 1) := by decide +kernel
theorem d_Told_at_16 : decode b_Told_at 16 = .ok (.baload, 1) := by decide +kernel
theorem d_Told_at_17 : decode b_Told_at 17 = .ok (.goto 4, 3) := by decide +kernel
theorem d_Told_at_20 : decode b_Told_at 20 = .ok (.iconst 0, 1) := by decide +kernel
theorem d_Told_at_21 : decode b_Told_at 21 = .ok (.ireturn, 1) := by decide +kernel
theorem d_Told_start_0 : decode b_Told_start 0 = .ok (.aload_n 0, 1) := by decide +kernel
theorem d_Told_start_1 : decode b_Told_start 1 = .ok (.iconst 0, 1) := by decide +kernel
theorem d_Told_start_2 : decode b_Told_start 2 = .ok (.putfield 16, 3) := by decide +kernel
theorem d_Told_start_5 : decode b_Told_start 5 = .ok (.iload_n 1, 1) := by decide +kernel
theorem d_Told_start_6 : decode b_Told_start 6 = .ok (.ifCond .eq 9, 3) := by decide +kernel
theorem d_Told_start_9 : decode b_Told_start 9 = .ok (.aload_n 0, 1) := by decide +kernel
theorem d_Told_start_10 : decode b_Told_start 10 = .ok (.bipush 45, 2) := by decide +kernel
theorem d_Told_start_12 : decode b_Told_start 12 = .ok (.invokevirtual 20, 3) := by decide +kernel
theorem d_Told_start_15 : decode b_Told_start 15 = .ok (.return_, 1) := by decide +kernel
theorem d_Told_add_0 : decode b_Told_add 0 = .ok (.aload_n 0, 1) := by decide +kernel
theorem d_Told_add_1 : decode b_Told_add 1 = .ok (.getfield 16, 3) := by decide +kernel
theorem d_Told_add_4 : decode b_Told_add 4 = .ok (.ifCond .lt 34, 3) := by decide +kernel
theorem d_Told_add_7 : decode b_Told_add 7 = .ok (.aload_n 0, 1) := by decide +kernel
theorem d_Told_add_8 : decode b_Told_add 8 = .ok (.getfield 16, 3) := by decide +kernel
theorem d_Told_add_11 : decode b_Told_add 11 = .ok (.sipush 160, 3) := by decide +kernel
theorem d_Told_add_14 : decode b_Told_add 14 = .ok (.if_icmp .ge 24, 3) := by decide +kernel
theorem d_Told_add_17 : decode b_Told_add 17 = .ok (.aload_n 0, 1) := by decide +kernel
theorem d_Told_add_18 : decode b_Told_add 18 = .ok (.getfield 9, 3) := by decide +kernel
theorem d_Told_add_21 : decode b_Told_add 21 = .ok (.aload_n 0, 1) := by decide +kernel
theorem d_Told_add_22 : decode b_Told_add 22 = .ok (.getfield 16, 3) := by decide +kernel
theorem d_Told_add_25 : decode b_Told_add 25 = .ok (.iload_n 1, 1) := by decide +kernel
theorem d_Told_add_26 : decode b_Told_add 26 = .ok (.i2b, 1) := by decide +kernel
theorem d_Told_add_27 : decode b_Told_add 27 = .ok (.bastore, 1) := by decide +kernel
theorem d_Told_add_28 : decode b_Told_add 28 = .ok (.aload_n 0, 1) := by decide +kernel
theorem d_Told_add_29 : decode b_Told_add 29 = .ok (.dup, 1) := by decide +kernel
theorem d_Told_add_30 : decode b_Told_add 30 = .ok (.getfield 16, 3) := by decide +kernel
theorem d_Told_add_33 : decode b_Told_add 33 = .ok (.iconst 1, 1) := by decide +kernel
theorem d_Told_add_34 : decode b_Told_add 34 = .ok (.iadd, 1) := by decide +kernel
theorem d_Told_add_35 : decode b_Told_add 35 = .ok (.putfield 16, 3) := by decide +kernel
theorem d_Told_add_38 : decode b_Told_add 38 = .ok (.return_, 1) := by decide +kernel
theorem d_Told_addPower_0 : decode b_Told_addPower 0 = .ok (.aload_n 0, 1) := by decide +kernel
theorem d_Told_addPower_1 : decode b_Told_addPower 1 = .ok (.bipush 101, 2) := by decide +kernel
theorem d_Told_addPower_3 : decode b_Told_addPower 3 = .ok (.invokevirtual 20, 3) := by decide +kernel
theorem d_Told_addPower_6 : decode b_Told_addPower 6 = .ok (.iload_n 1, 1) := by decide +kernel
theorem d_Told_addPower_7 : decode b_Told_addPower 7 = .ok (.ifCond .ge 9, 3) := by decide +kernel
theorem d_Told_addPower_10 : decode b_Told_addPower 10 = .ok (.aload_n 0, 1) := by decide +kernel
theorem d_Told_addPower_11 : decode b_Told_addPower 11 = .ok (.bipush 45, 2) := by decide +kernel
theorem d_Told_addPower_13 : decode b_Told_addPower 13 = .ok (.invokevirtual 20, 3) := by decide +kernel
theorem d_Told_addPower_16 : decode b_Told_addPower 16 = .ok (.iload_n 1, 1) := by decide +kernel
theorem d_Told_addPower_17 : decode b_Told_addPower 17 = .ok (.invokestatic 24, 3) := by decide +kernel
theorem d_Told_addPower_20 : decode b_Told_addPower 20 = .ok (.istore_n 2, 1) := by decide +kernel
theorem d_Told_addPower_21 : decode b_Told_addPower 21 = .ok (.iload_n 2, 1) := by decide +kernel
theorem d_Told_addPower_22 : decode b_Told_addPower 22 = .ok (.bipush 10, 2) := by decide +kernel
theorem d_Told_addPower_24 : decode b_Told_addPower 24 = .ok (.if_icmp .lt 7, 3) := by decide +kernel
theorem d_Told_addPower_27 : decode b_Told_addPower 27 = .ok (.iconst 2, 1) := by decide +kernel
theorem d_Told_addPower_28 : decode b_Told_addPower 28 = .ok (.goto 4, 3) := by decide +kernel
theorem d_Told_addPower_31 : decode b_Told_addPower 31 = .ok (.iconst 1, 1) := by decide +kernel
theorem d_Told_addPower_32 : decode b_Told_addPower 32 = .ok (.istore_n 3, 1) := by decide +kernel
theorem d_Told_addPower_33 : decode b_Told_addPower 33 = .ok (.aload_n 0, 1) := by decide +kernel
theorem d_Told_addPower_34 : decode b_Told_addPower 34 = .ok (.iload_n 2, 1) := by decide +kernel
theorem d_Told_addPower_35 : decode b_Told_addPower 35 = .ok (.i2l, 1) := by decide +kernel
theorem d_Told_addPower_36 : decode b_Told_addPower 36 = .ok (.iload_n 3, 1) := by decide +kernel
theorem d_Told_addPower_37 : decode b_Told_addPower 37 = .ok (.iload_n 3, 1) := by decide +kernel
theorem d_Told_addPower_38 : decode b_Told_addPower 38 = .ok (.invokevirtual 30, 3) := by decide +kernel
theorem d_Told_addPower_41 : decode b_Told_addPower 41 = .ok (.return_, 1) := by decide +kernel
theorem d_Told_addDigits_0 : decode b_Told_addDigits 0 = .ok (.lload_n 1, 1) := by decide +kernel
theorem d_Told_addDigits_1 : decode b_Told_addDigits 1 = .ok (.lstore 5, 2) := by decide +kernel
theorem d_Told_addDigits_3 : decode b_Told_addDigits 3 = .ok (.iconst 0, 1) := by decide +kernel
theorem d_Told_addDigits_4 : decode b_Told_addDigits 4 = .ok (.istore 7, 2) := by decide +kernel
theorem d_Told_addDigits_6 : decode b_Told_addDigits 6 = .ok (.iload 7, 2) := by decide +kernel
theorem d_Told_addDigits_8 : decode b_Told_addDigits 8 = .ok (.iload_n 3, 1) := by decide +kernel
theorem d_Told_addDigits_9 : decode b_Told_addDigits 9 = .ok (.if_icmp .ge 44, 3) := by decide +kernel
theorem d_Told_addDigits_12 : decode b_Told_addDigits 12 = .ok (.iload 7, 2) := by decide +kernel
theorem d_Told_addDigits_14 : decode b_Told_addDigits 14 = .ok (.sipush 160, 3) := by decide +kernel
theorem d_Told_addDigits_17 : decode b_Told_addDigits 17 = .ok (.if_icmp .ge 36, 3) := by decide +kernel
theorem d_Told_addDigits_20 : decode b_Told_addDigits 20 = .ok (.aload_n 0, 1) := by decide +kernel
theorem d_Told_addDigits_21 : decode b_Told_addDigits 21 = .ok (.getfield 13, 3) := by decide +kernel
theorem d_Told_addDigits_24 : decode b_Told_addDigits 24 = .ok (.iload 7, 2) := by decide +kernel
theorem d_Told_addDigits_26 : decode b_Told_addDigits 26 = .ok (.ldc2_w 34, 3) := by decide +kernel
theorem d_Told_addDigits_29 : decode b_Told_addDigits 29 = .ok (.lload 5, 2) := by decide +kernel
theorem d_Told_addDigits_31 : decode b_Told_addDigits 31 = .ok (.ldc2_w 36, 3) := by decide +kernel
theorem d_Told_addDigits_34 : decode b_Told_addDigits 34 = .ok (.lrem, 1) := by decide +kernel
theorem d_Told_addDigits_35 : decode b_Told_addDigits 35 = .ok (.ladd, 1) := by decide +kernel
theorem d_Told_addDigits_36 : decode b_Told_addDigits 36 = .ok (.l2i, 1) := by decide +kernel
theorem d_Told_addDigits_37 : decode b_Told_addDigits 37 = .ok (.i2b, 1) := by decide +kernel
theorem d_Told_addDigits_38 : decode b_Told_addDigits 38 = .ok (.bastore, 1) := by decide +kernel
theorem d_Told_addDigits_39 : decode b_Told_addDigits 39 = .ok (.lload 5, 2) := by decide +kernel
theorem d_Told_addDigits_41 : decode b_Told_addDigits 41 = .ok (.ldc2_w 36, 3) := by decide +kernel
theorem d_Told_addDigits_44 : decode b_Told_addDigits 44 = .ok (.ldiv, 1) := by decide +kernel
theorem d_Told_addDigits_45 : decode b_Told_addDigits 45 = .ok (.lstore 5, 2) := by decide +kernel
theorem d_Told_addDigits_47 : decode b_Told_addDigits 47 = .ok (.iinc 7 1, 3) := by decide +kernel
theorem d_Told_addDigits_50 : decode b_Told_addDigits 50 = .ok (.goto (-44), 3) := by decide +kernel
theorem d_Told_addDigits_53 : decode b_Told_addDigits 53 = .ok (.aload_n 0, 1) := by decide +kernel
theorem d_Told_addDigits_54 : decode b_Told_addDigits 54 = .ok (.iload_n 3, 1) := by decide +kernel
theorem d_Told_addDigits_55 : decode b_Told_addDigits 55 = .ok (.iload_n 3, 1) := by decide +kernel
theorem d_Told_addDigits_56 : decode b_Told_addDigits 56 = .ok (.iload 4, 2) := by decide +kernel
theorem d_Told_addDigits_58 : decode b_Told_addDigits 58 = .ok (.isub, 1) := by decide +kernel
theorem d_Told_addDigits_59 : decode b_Told_addDigits 59 = .ok (.invokevirtual 38, 3) := by decide +kernel
theorem d_Told_addDigits_62 : decode b_Told_addDigits 62 = .ok (.return_, 1) := by decide +kernel
theorem d_Told_addNatural_0 : decode b_Told_addNatural 0 = .ok (.iconst 0, 1) := by decide +kernel
theorem d_Told_addNatural_1 : decode b_Told_addNatural 1 = .ok (.istore_n 3, 1) := by decide +kernel
theorem d_Told_addNatural_2 : decode b_Told_addNatural 2 = .ok (.iload_n 3, 1) := by decide +kernel
theorem d_Told_addNatural_3 : decode b_Told_addNatural 3 = .ok (.sipush 160, 3) := by decide +kernel
theorem d_Told_addNatural_6 : decode b_Told_addNatural 6 = .ok (.if_icmp .ge 69, 3) := by decide +kernel
theorem d_Told_addNatural_9 : decode b_Told_addNatural 9 = .ok (.aload_n 1, 1) := by decide +kernel
theorem d_Told_addNatural_10 : decode b_Told_addNatural 10 = .ok (.invokevirtual 42, 3) := by decide +kernel
theorem d_Told_addNatural_13 : decode b_Told_addNatural 13 = .ok (.ifCond .ne 62, 3) := by decide +kernel
theorem d_Told_addNatural_16 : decode b_Told_addNatural 16 = .ok (.aload_n 1, 1) := by decide +kernel
theorem d_Told_addNatural_17 : decode b_Told_addNatural 17 = .ok (.ldc 48, 2) := by decide +kernel
theorem d_Told_addNatural_19 : decode b_Told_addNatural 19 = .ok (.invokevirtual 49, 3) := by decide +kernel
theorem d_Told_addNatural_22 : decode b_Told_addNatural 22 = .ok (.istore 4, 2) := by decide +kernel
theorem d_Told_addNatural_24 : decode b_Told_addNatural 24 = .ok (.iconst 0, 1) := by decide +kernel
theorem d_Told_addNatural_25 : decode b_Told_addNatural 25 = .ok (.istore 5, 2) := by decide +kernel
theorem d_Told_addNatural_27 : decode b_Told_addNatural 27 = .ok (.iload 5, 2) := by decide +kernel
theorem d_Told_addNatural_29 : decode b_Told_addNatural 29 = .ok (.bipush 9, 2) := by decide +kernel
theorem d_Told_addNatural_31 : decode b_Told_addNatural 31 = .ok (.if_icmp .ge 41, 3) := by decide +kernel
theorem d_Told_addNatural_34 : decode b_Told_addNatural 34 = .ok (.iload_n 3, 1) := by decide +kernel
theorem d_Told_addNatural_35 : decode b_Told_addNatural 35 = .ok (.sipush 160, 3) := by decide +kernel
theorem d_Told_addNatural_38 : decode b_Told_addNatural 38 = .ok (.if_icmp .ge 34, 3) := by decide +kernel
theorem d_Told_addNatural_41 : decode b_Told_addNatural 41 = .ok (.aload_n 0, 1) := by decide +kernel
theorem d_Told_addNatural_42 : decode b_Told_addNatural 42 = .ok (.getfield 13, 3) := by decide +kernel
theorem d_Told_addNatural_45 : decode b_Told_addNatural 45 = .ok (.iload_n 3, 1) := by decide +kernel
theorem d_Told_addNatural_46 : decode b_Told_addNatural 46 = .ok (.bipush 48, 2) := by decide +kernel
theorem d_Told_addNatural_48 : decode b_Told_addNatural 48 = .ok (.iload 4, 2) := by decide +kernel
theorem d_Told_addNatural_50 : decode b_Told_addNatural 50 = .ok (.bipush 10, 2) := by decide +kernel
theorem d_Told_addNatural_52 : decode b_Told_addNatural 52 = .ok (.irem, 1) := by decide +kernel
theorem d_Told_addNatural_53 : decode b_Told_addNatural 53 = .ok (.iadd, 1) := by decide +kernel
theorem d_Told_addNatural_54 : decode b_Told_addNatural 54 = .ok (.i2b, 1) := by decide +kernel
theorem d_Told_addNatural_55 : decode b_Told_addNatural 55 = .ok (.bastore, 1) := by decide +kernel
theorem d_Told_addNatural_56 : decode b_Told_addNatural 56 = .ok (.iload 4, 2) := by decide +kernel
theorem d_Told_addNatural_58 : decode b_Told_addNatural 58 = .ok (.bipush 10, 2) := by decide +kernel
theorem d_Told_addNatural_60 : decode b_Told_addNatural 60 = .ok (.idiv, 1) := by decide +kernel
theorem d_Told_addNatural_61 : decode b_Told_addNatural 61 = .ok (.istore 4, 2) := by decide +kernel
theorem d_Told_addNatural_63 : decode b_Told_addNatural 63 = .ok (.iinc 3 1, 3) := by decide +kernel
theorem d_Told_addNatural_66 : decode b_Told_addNatural 66 = .ok (.iinc 5 1, 3) := by decide +kernel
theorem d_Told_addNatural_69 : decode b_Told_addNatural 69 = .ok (.goto (-42), 3) := by decide +kernel
theorem d_Told_addNatural_72 : decode b_Told_addNatural 72 = .ok (.goto (-70), 3) := by decide +kernel
theorem d_Told_addNatural_75 : decode b_Told_addNatural 75 = .ok (.iload_n 3, 1) := by decide +kernel
theorem d_Told_addNatural_76 : decode b_Told_addNatural 76 = .ok (.sipush 160, 3) := by decide +kernel
theorem d_Told_addNatural_79 : decode b_Told_addNatural 79 = .ok (.if_icmp .ge 22, 3) := by decide +kernel
theorem d_Told_addNatural_82 : decode b_Told_addNatural 82 = .ok (.iload_n 3, 1) := by decide +kernel
theorem d_Told_addNatural_83 : decode b_Told_addNatural 83 = .ok (.iload_n 2, 1) := by decide +kernel
theorem d_Told_addNatural_84 : decode b_Told_addNatural 84 = .ok (.if_icmp .gt 17, 3) := by decide +kernel
theorem d_Told_addNatural_87 : decode b_Told_addNatural 87 = .ok (.aload_n 0, 1) := by decide +kernel
theorem d_Told_addNatural_88 : decode b_Told_addNatural 88 = .ok (.getfield 13, 3) := by decide +kernel
theorem d_Told_addNatural_91 : decode b_Told_addNatural 91 = .ok (.iload_n 3, 1) := by decide +kernel
theorem d_Told_addNatural_92 : decode b_Told_addNatural 92 = .ok (.bipush 48, 2) := by decide +kernel
theorem d_Told_addNatural_94 : decode b_Told_addNatural 94 = .ok (.bastore, 1) := by decide +kernel
theorem d_Told_addNatural_95 : decode b_Told_addNatural 95 = .ok (.iinc 3 1, 3) := by decide +kernel
theorem d_Told_addNatural_98 : decode b_Told_addNatural 98 = .ok (.goto (-23), 3) := by decide +kernel
theorem d_Told_addNatural_101 : decode b_Told_addNatural 101 = .ok (.iload_n 3, 1) := by decide +kernel
theorem d_Told_addNatural_102 : decode b_Told_addNatural 102 = .ok (.iconst 1, 1) := by decide +kernel
theorem d_Told_addNatural_103 : decode b_Told_addNatural 103 = .ok (.if_icmp .le 36, 3) := by decide +kernel
theorem d_Told_addNatural_106 : decode b_Told_addNatural 106 = .ok (.iload_n 3, 1) := by decide +kernel
theorem d_Told_addNatural_107 : decode b_Told_addNatural 107 = .ok (.iload_n 2, 1) := by decide +kernel
theorem d_Told_addNatural_108 : decode b_Told_addNatural 108 = .ok (.iconst 1, 1) := by decide +kernel
theorem d_Told_addNatural_109 : decode b_Told_addNatural 109 = .ok (.iadd, 1) := by decide +kernel
theorem d_Told_addNatural_110 : decode b_Told_addNatural 110 = .ok (.if_icmp .le 29, 3) := by decide +kernel
theorem d_Told_addNatural_113 : decode b_Told_addNatural 113 = .ok (.iload_n 3, 1) := by decide +kernel
theorem d_Told_addNatural_114 : decode b_Told_addNatural 114 = .ok (.sipush 160, 3) := by decide +kernel
theorem d_Told_addNatural_117 : decode b_Told_addNatural 117 = .ok (.if_icmp .gt 22, 3) := by decide +kernel
theorem d_Told_addNatural_120 : decode b_Told_addNatural 120 = .ok (.aload_n 0, 1) := by decide +kernel
theorem d_Told_addNatural_121 : decode b_Told_addNatural 121 = .ok (.getfield 13, 3) := by decide +kernel
theorem d_Told_addNatural_124 : decode b_Told_addNatural 124 = .ok (.iload_n 3, 1) := by decide +kernel
theorem d_Told_addNatural_125 : decode b_Told_addNatural 125 = .ok (.iconst 1, 1) := by decide +kernel
theorem d_Told_addNatural_126 : decode b_Told_addNatural 126 = .ok (.isub, 1) := by decide +kernel
theorem d_Told_addNatural_127 : decode b_Told_addNatural 127 = .ok (.baload, 1) := by decide +kernel
theorem d_Told_addNatural_128 : decode b_Told_addNatural 128 = .ok (.bipush 48, 2) := by decide +kernel
theorem d_Told_addNatural_130 : decode b_Told_addNatural 130 = .ok (.if_icmp .ne 9, 3) := by decide +kernel
theorem d_Told_addNatural_133 : decode b_Told_addNatural 133 = .ok (.iinc 3 (-1), 3) := by decide +kernel
theorem d_Told_addNatural_136 : decode b_Told_addNatural 136 = .ok (.goto (-35), 3) := by decide +kernel
theorem d_Told_addNatural_139 : decode b_Told_addNatural 139 = .ok (.aload_n 0, 1) := by decide +kernel
theorem d_Told_addNatural_140 : decode b_Told_addNatural 140 = .ok (.iload_n 3, 1) := by decide +kernel
theorem d_Told_addNatural_141 : decode b_Told_addNatural 141 = .ok (.iload_n 2, 1) := by decide +kernel
theorem d_Told_addNatural_142 : decode b_Told_addNatural 142 = .ok (.invokevirtual 38, 3) := by decide +kernel
theorem d_Told_addNatural_145 : decode b_Told_addNatural 145 = .ok (.return_, 1) := by decide +kernel
theorem d_Told_addReversed_0 : decode b_Told_addReversed 0 = .ok (.iload_n 1, 1) := by decide +kernel
theorem d_Told_addReversed_1 : decode b_Told_addReversed 1 = .ok (.sipush 160, 3) := by decide +kernel
theorem d_Told_addReversed_4 : decode b_Told_addReversed 4 = .ok (.invokestatic 52, 3) := by decide +kernel
theorem d_Told_addReversed_7 : decode b_Told_addReversed 7 = .ok (.iconst 1, 1) := by decide +kernel
theorem d_Told_addReversed_8 : decode b_Told_addReversed 8 = .ok (.isub, 1) := by decide +kernel
theorem d_Told_addReversed_9 : decode b_Told_addReversed 9 = .ok (.istore_n 3, 1) := by decide +kernel
theorem d_Told_addReversed_10 : decode b_Told_addReversed 10 = .ok (.iload_n 3, 1) := by decide +kernel
theorem d_Told_addReversed_11 : decode b_Told_addReversed 11 = .ok (.ifCond .lt 34, 3) := by decide +kernel
theorem d_Told_addReversed_14 : decode b_Told_addReversed 14 = .ok (.aload_n 0, 1) := by decide +kernel
theorem d_Told_addReversed_15 : decode b_Told_addReversed 15 = .ok (.aload_n 0, 1) := by decide +kernel
theorem d_Told_addReversed_16 : decode b_Told_addReversed 16 = .ok (.getfield 13, 3) := by decide +kernel
theorem d_Told_addReversed_19 : decode b_Told_addReversed 19 = .ok (.iload_n 3, 1) := by decide +kernel
theorem d_Told_addReversed_20 : decode b_Told_addReversed 20 = .ok (.baload, 1) := by decide +kernel
theorem d_Told_addReversed_21 : decode b_Told_addReversed 21 = .ok (.invokevirtual 20, 3) := by decide +kernel
theorem d_Told_addReversed_24 : decode b_Told_addReversed 24 = .ok (.iload_n 3, 1) := by decide +kernel
theorem d_Told_addReversed_25 : decode b_Told_addReversed 25 = .ok (.iload_n 2, 1) := by decide +kernel
theorem d_Told_addReversed_26 : decode b_Told_addReversed 26 = .ok (.if_icmp .ne 13, 3) := by decide +kernel
theorem d_Told_addReversed_29 : decode b_Told_addReversed 29 = .ok (.iload_n 3, 1) := by decide +kernel
theorem d_Told_addReversed_30 : decode b_Told_addReversed 30 = .ok (.ifCond .le 9, 3) := by decide +kernel
theorem d_Told_addReversed_33 : decode b_Told_addReversed 33 = .ok (.aload_n 0, 1) := by decide +kernel
theorem d_Told_addReversed_34 : decode b_Told_addReversed 34 = .ok (.bipush 46, 2) := by decide +kernel
theorem d_Told_addReversed_36 : decode b_Told_addReversed 36 = .ok (.invokevirtual 20, 3) := by decide +kernel
theorem d_Told_addReversed_39 : decode b_Told_addReversed 39 = .ok (.iinc 3 (-1), 3) := by decide +kernel
theorem d_Told_addReversed_42 : decode b_Told_addReversed 42 = .ok (.goto (-32), 3) := by decide +kernel
theorem d_Told_addReversed_45 : decode b_Told_addReversed 45 = .ok (.return_, 1) := by decide +kernel
theorem d_Desk_init_0 : decode b_Desk_init 0 = .ok (.aload_n 0, 1) := by decide +kernel
theorem d_Desk_init_1 : decode b_Desk_init 1 = .ok (.invokespecial 1, 3) := by decide +kernel
theorem d_Desk_init_4 : decode b_Desk_init 4 = .ok (.aload_n 0, 1) := by decide +kernel
theorem d_Desk_init_5 : decode b_Desk_init 5 = .ok (.new 7, 3) := by decide +kernel
theorem d_Desk_init_8 : decode b_Desk_init 8 = .ok (.dup, 1) := by decide +kernel
theorem d_Desk_init_9 : decode b_Desk_init 9 = .ok (.invokespecial 9, 3) := by decide +kernel
theorem d_Desk_init_12 : decode b_Desk_init 12 = .ok (.putfield 10, 3) := by decide +kernel
theorem d_Desk_init_15 : decode b_Desk_init 15 = .ok (.aload_n 0, 1) := by decide +kernel
theorem d_Desk_init_16 : decode b_Desk_init 16 = .ok (.new 16, 3) := by decide +kernel
theorem d_Desk_init_19 : decode b_Desk_init 19 = .ok (.dup, 1) := by decide +kernel
theorem d_Desk_init_20 : decode b_Desk_init 20 = .ok (.invokespecial 18, 3) := by decide +kernel
theorem d_Desk_init_23 : decode b_Desk_init 23 = .ok (.putfield 19, 3) := by decide +kernel
theorem d_Desk_init_26 : decode b_Desk_init 26 = .ok (.aload_n 0, 1) := by decide +kernel
theorem d_Desk_init_27 : decode b_Desk_init 27 = .ok (.new 23, 3) := by decide +kernel
theorem d_Desk_init_30 : decode b_Desk_init 30 = .ok (.dup, 1) := by decide +kernel
theorem d_Desk_init_31 : decode b_Desk_init 31 = .ok (.invokespecial 25, 3) := by decide +kernel
theorem d_Desk_init_34 : decode b_Desk_init 34 = .ok (.putfield 26, 3) := by decide +kernel
theorem d_Desk_init_37 : decode b_Desk_init 37 = .ok (.aload_n 0, 1) := by decide +kernel
theorem d_Desk_init_38 : decode b_Desk_init 38 = .ok (.new 30, 3) := by decide +kernel
theorem d_Desk_init_41 : decode b_Desk_init 41 = .ok (.dup, 1) := by decide +kernel
theorem d_Desk_init_42 : decode b_Desk_init 42 = .ok (.invokespecial 32, 3) := by decide +kernel
theorem d_Desk_init_45 : decode b_Desk_init 45 = .ok (.putfield 33, 3) := by decide +kernel
theorem d_Desk_init_48 : decode b_Desk_init 48 = .ok (.aload_n 0, 1) := by decide +kernel
theorem d_Desk_init_49 : decode b_Desk_init 49 = .ok (.new 37, 3) := by decide +kernel
theorem d_Desk_init_52 : decode b_Desk_init 52 = .ok (.dup, 1) := by decide +kernel
theorem d_Desk_init_53 : decode b_Desk_init 53 = .ok (.invokespecial 39, 3) := by decide +kernel
theorem d_Desk_init_56 : decode b_Desk_init 56 = .ok (.putfield 40, 3) := by decide +kernel
theorem d_Desk_init_59 : decode b_Desk_init 59 = .ok (.aload_n 0, 1) := by decide +kernel
theorem d_Desk_init_60 : decode b_Desk_init 60 = .ok (.new 44, 3) := by decide +kernel
theorem d_Desk_init_63 : decode b_Desk_init 63 = .ok (.dup, 1) := by decide +kernel
theorem d_Desk_init_64 : decode b_Desk_init 64 = .ok (.invokespecial 46, 3) := by decide +kernel
theorem d_Desk_init_67 : decode b_Desk_init 67 = .ok (.putfield 47, 3) := by decide +kernel
theorem d_Desk_init_70 : decode b_Desk_init 70 = .ok (.aload_n 0, 1) := by decide +kernel
theorem d_Desk_init_71 : decode b_Desk_init 71 = .ok (.new 51, 3) := by decide +kernel
theorem d_Desk_init_74 : decode b_Desk_init 74 = .ok (.dup, 1) := by decide +kernel
theorem d_Desk_init_75 : decode b_Desk_init 75 = .ok (.invokespecial 53, 3) := by decide +kernel
theorem d_Desk_init_78 : decode b_Desk_init 78 = .ok (.putfield 54, 3) := by decide +kernel
theorem d_Desk_init_81 : decode b_Desk_init 81 = .ok (.aload_n 0, 1) := by decide +kernel
theorem d_Desk_init_82 : decode b_Desk_init 82 = .ok (.iconst 0, 1) := by decide +kernel
theorem d_Desk_init_83 : decode b_Desk_init 83 = .ok (.putfield 58, 3) := by decide +kernel
theorem d_Desk_init_86 : decode b_Desk_init 86 = .ok (.aload_n 0, 1) := by decide +kernel
theorem d_Desk_init_87 : decode b_Desk_init 87 = .ok (.iconst 0, 1) := by decide +kernel
theorem d_Desk_init_88 : decode b_Desk_init 88 = .ok (.putfield 62, 3) := by decide +kernel
theorem d_Desk_init_91 : decode b_Desk_init 91 = .ok (.return_, 1) := by decide +kernel
theorem d_Desk_format_0 : decode b_Desk_format 0 = .ok (.iload_n 1, 1) := by decide +kernel
theorem d_Desk_format_1 : decode b_Desk_format 1 = .ok (.iconst 2, 1) := by decide +kernel
theorem d_Desk_format_2 : decode b_Desk_format 2 = .ok (.if_icmp .lt 20, 3) := by decide +kernel
theorem d_Desk_format_5 : decode b_Desk_format 5 = .ok (.iload_n 1, 1) := by decide +kernel
theorem d_Desk_format_6 : decode b_Desk_format 6 = .ok (.bipush 8, 2) := by decide +kernel
theorem d_Desk_format_8 : decode b_Desk_format 8 = .ok (.if_icmp .gt 14, 3) := by decide +kernel
theorem d_Desk_format_11 : decode b_Desk_format 11 = .ok (.iload_n 2, 1) := by decide +kernel
theorem d_Desk_format_12 : decode b_Desk_format 12 = .ok (.iconst 1, 1) := by decide +kernel
theorem d_Desk_format_13 : decode b_Desk_format 13 = .ok (.if_icmp .lt 9, 3) := by decide +kernel
theorem d_Desk_format_16 : decode b_Desk_format 16 = .ok (.iload_n 2, 1) := by decide +kernel
theorem d_Desk_format_17 : decode b_Desk_format 17 = .ok (.bipush 23, 2) := by decide +kernel
theorem d_Desk_format_19 : decode b_Desk_format 19 = .ok (.if_icmp .le 5, 3) := by decide +kernel
theorem d_Desk_format_22 : decode b_Desk_format 22 = .ok (.iconst 0, 1) := by decide +kernel
theorem d_Desk_format_23 : decode b_Desk_format 23 = .ok (.ireturn, 1) := by decide +kernel
theorem d_Desk_format_24 : decode b_Desk_format 24 = .ok (.aload_n 0, 1) := by decide +kernel
theorem d_Desk_format_25 : decode b_Desk_format 25 = .ok (.getfield 10, 3) := by decide +kernel
theorem d_Desk_format_28 : decode b_Desk_format 28 = .ok (.iload_n 1, 1) := by decide +kernel
theorem d_Desk_format_29 : decode b_Desk_format 29 = .ok (.putfield 65, 3) := by decide +kernel
theorem d_Desk_format_32 : decode b_Desk_format 32 = .ok (.aload_n 0, 1) := by decide +kernel
theorem d_Desk_format_33 : decode b_Desk_format 33 = .ok (.getfield 10, 3) := by decide +kernel
theorem d_Desk_format_36 : decode b_Desk_format 36 = .ok (.iload_n 2, 1) := by decide +kernel
theorem d_Desk_format_37 : decode b_Desk_format 37 = .ok (.putfield 68, 3) := by decide +kernel
theorem d_Desk_format_40 : decode b_Desk_format 40 = .ok (.iconst 1, 1) := by decide +kernel
theorem d_Desk_format_41 : decode b_Desk_format 41 = .ok (.ireturn, 1) := by decide +kernel
theorem d_Desk_mode_0 : decode b_Desk_mode 0 = .ok (.iload_n 1, 1) := by decide +kernel
theorem d_Desk_mode_1 : decode b_Desk_mode 1 = .ok (.ifCond .lt 8, 3) := by decide +kernel
theorem d_Desk_mode_4 : decode b_Desk_mode 4 = .ok (.iload_n 1, 1) := by decide +kernel
theorem d_Desk_mode_5 : decode b_Desk_mode 5 = .ok (.iconst 4, 1) := by decide +kernel
theorem d_Desk_mode_6 : decode b_Desk_mode 6 = .ok (.if_icmp .le 5, 3) := by decide +kernel
theorem d_Desk_mode_9 : decode b_Desk_mode 9 = .ok (.iconst 0, 1) := by decide +kernel
theorem d_Desk_mode_10 : decode b_Desk_mode 10 = .ok (.ireturn, 1) := by decide +kernel
theorem d_Desk_mode_11 : decode b_Desk_mode 11 = .ok (.aload_n 0, 1) := by decide +kernel
theorem d_Desk_mode_12 : decode b_Desk_mode 12 = .ok (.iload_n 1, 1) := by decide +kernel
theorem d_Desk_mode_13 : decode b_Desk_mode 13 = .ok (.putfield 58, 3) := by decide +kernel
theorem d_Desk_mode_16 : decode b_Desk_mode 16 = .ok (.iconst 1, 1) := by decide +kernel
theorem d_Desk_mode_17 : decode b_Desk_mode 17 = .ok (.ireturn, 1) := by decide +kernel
theorem d_Desk_type_0 : decode b_Desk_type 0 = .ok (.aload_n 0, 1) := by decide +kernel
theorem d_Desk_type_1 : decode b_Desk_type 1 = .ok (.getfield 19, 3) := by decide +kernel
theorem d_Desk_type_4 : decode b_Desk_type 4 = .ok (.lload_n 1, 1) := by decide +kernel
theorem d_Desk_type_5 : decode b_Desk_type 5 = .ok (.iload_n 3, 1) := by decide +kernel
theorem d_Desk_type_6 : decode b_Desk_type 6 = .ok (.invokevirtual 71, 3) := by decide +kernel
theorem d_Desk_type_9 : decode b_Desk_type 9 = .ok (.ireturn, 1) := by decide +kernel
theorem d_Desk_read_0 : decode b_Desk_read 0 = .ok (.aload_n 0, 1) := by decide +kernel
theorem d_Desk_read_1 : decode b_Desk_read 1 = .ok (.getfield 26, 3) := by decide +kernel
theorem d_Desk_read_4 : decode b_Desk_read 4 = .ok (.aload_n 0, 1) := by decide +kernel
theorem d_Desk_read_5 : decode b_Desk_read 5 = .ok (.getfield 19, 3) := by decide +kernel
theorem d_Desk_read_8 : decode b_Desk_read 8 = .ok (.invokevirtual 75, 3) := by decide +kernel
theorem d_Desk_read_11 : decode b_Desk_read 11 = .ok (.istore_n 1, 1) := by decide +kernel
theorem d_Desk_read_12 : decode b_Desk_read 12 = .ok (.aload_n 0, 1) := by decide +kernel
theorem d_Desk_read_13 : decode b_Desk_read 13 = .ok (.getfield 19, 3) := by decide +kernel
theorem d_Desk_read_16 : decode b_Desk_read 16 = .ok (.invokevirtual 79, 3) := by decide +kernel
theorem d_Desk_read_19 : decode b_Desk_read 19 = .ok (.iload_n 1, 1) := by decide +kernel
theorem d_Desk_read_20 : decode b_Desk_read 20 = .ok (.ifCond .ne 13, 3) := by decide +kernel
theorem d_Desk_read_23 : decode b_Desk_read 23 = .ok (.new 82, 3) := by decide +kernel
theorem d_Desk_read_26 : decode b_Desk_read 26 = .ok (.dup, 1) := by decide +kernel
theorem d_Desk_read_27 : decode b_Desk_read 27 = .ok (.ldc 84, 2) := by decide +kernel
theorem d_Desk_read_29 : decode b_Desk_read 29 = .ok (.invokespecial 86, 3) := by decide +kernel
theorem d_Desk_read_32 : decode b_Desk_read 32 = .ok (.athrow, 1) := by decide +kernel
theorem d_Desk_read_33 : decode b_Desk_read 33 = .ok (.aload_n 0, 1) := by decide +kernel
theorem d_Desk_read_34 : decode b_Desk_read 34 = .ok (.getfield 33, 3) := by decide +kernel
theorem d_Desk_read_37 : decode b_Desk_read 37 = .ok (.aload_n 0, 1) := by decide +kernel
theorem d_Desk_read_38 : decode b_Desk_read 38 = .ok (.getfield 26, 3) := by decide +kernel
theorem d_Desk_read_41 : decode b_Desk_read 41 = .ok (.aload_n 0, 1) := by decide +kernel
theorem d_Desk_read_42 : decode b_Desk_read 42 = .ok (.getfield 10, 3) := by decide +kernel
theorem d_Desk_read_45 : decode b_Desk_read 45 = .ok (.aload_n 0, 1) := by decide +kernel
theorem d_Desk_read_46 : decode b_Desk_read 46 = .ok (.getfield 58, 3) := by decide +kernel
theorem d_Desk_read_49 : decode b_Desk_read 49 = .ok (.invokevirtual 89, 3) := by decide +kernel
theorem d_Desk_read_52 : decode b_Desk_read 52 = .ok (.aload_n 0, 1) := by decide +kernel
theorem d_Desk_read_53 : decode b_Desk_read 53 = .ok (.getfield 33, 3) := by decide +kernel
theorem d_Desk_read_56 : decode b_Desk_read 56 = .ok (.getfield 93, 3) := by decide +kernel
theorem d_Desk_read_59 : decode b_Desk_read 59 = .ok (.lstore_n 2, 1) := by decide +kernel
theorem d_Desk_read_60 : decode b_Desk_read 60 = .ok (.lload_n 2, 1) := by decide +kernel
theorem d_Desk_read_61 : decode b_Desk_read 61 = .ok (.aload_n 0, 1) := by decide +kernel
theorem d_Desk_read_62 : decode b_Desk_read 62 = .ok (.getfield 10, 3) := by decide +kernel
theorem d_Desk_read_65 : decode b_Desk_read 65 = .ok (.invokevirtual 97, 3) := by decide +kernel
theorem d_Desk_read_68 : decode b_Desk_read 68 = .ok (.lcmp, 1) := by decide +kernel
theorem d_Desk_read_69 : decode b_Desk_read 69 = .ok (.ifCond .lt 7, 3) := by decide +kernel
theorem d_Desk_read_72 : decode b_Desk_read 72 = .ok (.iconst 1, 1) := by decide +kernel
theorem d_Desk_read_73 : decode b_Desk_read 73 = .ok (.goto 4, 3) := by decide +kernel
theorem d_Desk_read_76 : decode b_Desk_read 76 = .ok (.iconst 0, 1) := by decide +kernel
theorem d_Desk_read_77 : decode b_Desk_read 77 = .ok (.istore 4, 2) := by decide +kernel
theorem d_Desk_read_79 : decode b_Desk_read 79 = .ok (.iload 4, 2) := by decide +kernel
theorem d_Desk_read_81 : decode b_Desk_read 81 = .ok (.ifCond .eq 15, 3) := by decide +kernel
theorem d_Desk_read_84 : decode b_Desk_read 84 = .ok (.aload_n 0, 1) := by decide +kernel
theorem d_Desk_read_85 : decode b_Desk_read 85 = .ok (.aload_n 0, 1) := by decide +kernel
theorem d_Desk_read_86 : decode b_Desk_read 86 = .ok (.getfield 26, 3) := by decide +kernel
theorem d_Desk_read_89 : decode b_Desk_read 89 = .ok (.getfield 101, 3) := by decide +kernel
theorem d_Desk_read_92 : decode b_Desk_read 92 = .ok (.invokevirtual 105, 3) := by decide +kernel
theorem d_Desk_read_95 : decode b_Desk_read 95 = .ok (.lstore_n 2, 1) := by decide +kernel
theorem d_Desk_read_96 : decode b_Desk_read 96 = .ok (.aload_n 0, 1) := by decide +kernel
theorem d_Desk_read_97 : decode b_Desk_read 97 = .ok (.iload 4, 2) := by decide +kernel
theorem d_Desk_read_99 : decode b_Desk_read 99 = .ok (.invokevirtual 109, 3) := by decide +kernel
theorem d_Desk_read_102 : decode b_Desk_read 102 = .ok (.aload_n 0, 1) := by decide +kernel
theorem d_Desk_read_103 : decode b_Desk_read 103 = .ok (.getfield 26, 3) := by decide +kernel
theorem d_Desk_read_106 : decode b_Desk_read 106 = .ok (.getfield 101, 3) := by decide +kernel
theorem d_Desk_read_109 : decode b_Desk_read 109 = .ok (.ifCond .eq 15, 3) := by decide +kernel
theorem d_Desk_read_112 : decode b_Desk_read 112 = .ok (.aload_n 0, 1) := by decide +kernel
theorem d_Desk_read_113 : decode b_Desk_read 113 = .ok (.getfield 10, 3) := by decide +kernel
theorem d_Desk_read_116 : decode b_Desk_read 116 = .ok (.invokevirtual 113, 3) := by decide +kernel
theorem d_Desk_read_119 : decode b_Desk_read 119 = .ok (.lload_n 2, 1) := by decide +kernel
theorem d_Desk_read_120 : decode b_Desk_read 120 = .ok (.ladd, 1) := by decide +kernel
theorem d_Desk_read_121 : decode b_Desk_read 121 = .ok (.goto 4, 3) := by decide +kernel
theorem d_Desk_read_124 : decode b_Desk_read 124 = .ok (.lload_n 2, 1) := by decide +kernel
theorem d_Desk_read_125 : decode b_Desk_read 125 = .ok (.lreturn, 1) := by decide +kernel
theorem d_Desk_flags_0 : decode b_Desk_flags 0 = .ok (.aload_n 0, 1) := by decide +kernel
theorem d_Desk_flags_1 : decode b_Desk_flags 1 = .ok (.getfield 62, 3) := by decide +kernel
theorem d_Desk_flags_4 : decode b_Desk_flags 4 = .ok (.ireturn, 1) := by decide +kernel
theorem d_Desk_clear_0 : decode b_Desk_clear 0 = .ok (.aload_n 0, 1) := by decide +kernel
theorem d_Desk_clear_1 : decode b_Desk_clear 1 = .ok (.getfield 62, 3) := by decide +kernel
theorem d_Desk_clear_4 : decode b_Desk_clear 4 = .ok (.iload_n 1, 1) := by decide +kernel
theorem d_Desk_clear_5 : decode b_Desk_clear 5 = .ok (.iand, 1) := by decide +kernel
theorem d_Desk_clear_6 : decode b_Desk_clear 6 = .ok (.istore_n 2, 1) := by decide +kernel
theorem d_Desk_clear_7 : decode b_Desk_clear 7 = .ok (.aload_n 0, 1) := by decide +kernel
theorem d_Desk_clear_8 : decode b_Desk_clear 8 = .ok (.aload_n 0, 1) := by decide +kernel
theorem d_Desk_clear_9 : decode b_Desk_clear 9 = .ok (.getfield 62, 3) := by decide +kernel
theorem d_Desk_clear_12 : decode b_Desk_clear 12 = .ok (.iload_n 1, 1) := by decide +kernel
theorem d_Desk_clear_13 : decode b_Desk_clear 13 = .ok (.iconst (-1), 1) := by decide +kernel
theorem d_Desk_clear_14 : decode b_Desk_clear 14 = .ok (.ixor, 1) := by decide +kernel
theorem d_Desk_clear_15 : decode b_Desk_clear 15 = .ok (.iand, 1) := by decide +kernel
theorem d_Desk_clear_16 : decode b_Desk_clear 16 = .ok (.putfield 62, 3) := by decide +kernel
theorem d_Desk_clear_19 : decode b_Desk_clear 19 = .ok (.iload_n 2, 1) := by decide +kernel
theorem d_Desk_clear_20 : decode b_Desk_clear 20 = .ok (.ireturn, 1) := by decide +kernel
theorem d_Desk_shortest_0 : decode b_Desk_shortest 0 = .ok (.aload_n 0, 1) := by decide +kernel
theorem d_Desk_shortest_1 : decode b_Desk_shortest 1 = .ok (.getfield 10, 3) := by decide +kernel
theorem d_Desk_shortest_4 : decode b_Desk_shortest 4 = .ok (.lload_n 1, 1) := by decide +kernel
theorem d_Desk_shortest_5 : decode b_Desk_shortest 5 = .ok (.invokevirtual 116, 3) := by decide +kernel
theorem d_Desk_shortest_8 : decode b_Desk_shortest 8 = .ok (.ifCond .ne 13, 3) := by decide +kernel
theorem d_Desk_shortest_11 : decode b_Desk_shortest 11 = .ok (.new 82, 3) := by decide +kernel
theorem d_Desk_shortest_14 : decode b_Desk_shortest 14 = .ok (.dup, 1) := by decide +kernel
theorem d_Desk_shortest_15 : decode b_Desk_shortest 15 = .ok (.ldc 120, 2) := by decide +kernel
theorem d_Desk_shortest_17 : decode b_Desk_shortest 17 = .ok (.invokespecial 86, 3) := by decide +kernel
theorem d_Desk_shortest_20 : decode b_Desk_shortest 20 = .ok (.athrow, 1) := by decide +kernel
theorem d_Desk_shortest_21 : decode b_Desk_shortest 21 = .ok (.aload_n 0, 1) := by decide +kernel
theorem d_Desk_shortest_22 : decode b_Desk_shortest 22 = .ok (.lload_n 1, 1) := by decide +kernel
theorem d_Desk_shortest_23 : decode b_Desk_shortest 23 = .ok (.invokevirtual 122, 3) := by decide +kernel
theorem d_Desk_shortest_26 : decode b_Desk_shortest 26 = .ok (.ifCond .ne 8, 3) := by decide +kernel
theorem d_Desk_shortest_29 : decode b_Desk_shortest 29 = .ok (.aload_n 0, 1) := by decide +kernel
theorem d_Desk_shortest_30 : decode b_Desk_shortest 30 = .ok (.lload_n 1, 1) := by decide +kernel
theorem d_Desk_shortest_31 : decode b_Desk_shortest 31 = .ok (.invokevirtual 125, 3) := by decide +kernel
theorem d_Desk_shortest_34 : decode b_Desk_shortest 34 = .ok (.aload_n 0, 1) := by decide +kernel
theorem d_Desk_shortest_35 : decode b_Desk_shortest 35 = .ok (.getfield 54, 3) := by decide +kernel
theorem d_Desk_shortest_38 : decode b_Desk_shortest 38 = .ok (.getfield 129, 3) := by decide +kernel
theorem d_Desk_shortest_41 : decode b_Desk_shortest 41 = .ok (.ireturn, 1) := by decide +kernel
theorem d_Desk_exact_0 : decode b_Desk_exact 0 = .ok (.aload_n 0, 1) := by decide +kernel
theorem d_Desk_exact_1 : decode b_Desk_exact 1 = .ok (.getfield 10, 3) := by decide +kernel
theorem d_Desk_exact_4 : decode b_Desk_exact 4 = .ok (.lload_n 1, 1) := by decide +kernel
theorem d_Desk_exact_5 : decode b_Desk_exact 5 = .ok (.invokevirtual 116, 3) := by decide +kernel
theorem d_Desk_exact_8 : decode b_Desk_exact 8 = .ok (.ifCond .ne 13, 3) := by decide +kernel
theorem d_Desk_exact_11 : decode b_Desk_exact 11 = .ok (.new 82, 3) := by decide +kernel
theorem d_Desk_exact_14 : decode b_Desk_exact 14 = .ok (.dup, 1) := by decide +kernel
theorem d_Desk_exact_15 : decode b_Desk_exact 15 = .ok (.ldc 120, 2) := by decide +kernel
theorem d_Desk_exact_17 : decode b_Desk_exact 17 = .ok (.invokespecial 86, 3) := by decide +kernel
theorem d_Desk_exact_20 : decode b_Desk_exact 20 = .ok (.athrow, 1) := by decide +kernel
theorem d_Desk_exact_21 : decode b_Desk_exact 21 = .ok (.aload_n 0, 1) := by decide +kernel
theorem d_Desk_exact_22 : decode b_Desk_exact 22 = .ok (.lload_n 1, 1) := by decide +kernel
theorem d_Desk_exact_23 : decode b_Desk_exact 23 = .ok (.invokevirtual 122, 3) := by decide +kernel
theorem d_Desk_exact_26 : decode b_Desk_exact 26 = .ok (.ifCond .ne 8, 3) := by decide +kernel
theorem d_Desk_exact_29 : decode b_Desk_exact 29 = .ok (.aload_n 0, 1) := by decide +kernel
theorem d_Desk_exact_30 : decode b_Desk_exact 30 = .ok (.lload_n 1, 1) := by decide +kernel
theorem d_Desk_exact_31 : decode b_Desk_exact 31 = .ok (.invokevirtual 132, 3) := by decide +kernel
theorem d_Desk_exact_34 : decode b_Desk_exact 34 = .ok (.aload_n 0, 1) := by decide +kernel
theorem d_Desk_exact_35 : decode b_Desk_exact 35 = .ok (.getfield 54, 3) := by decide +kernel
theorem d_Desk_exact_38 : decode b_Desk_exact 38 = .ok (.getfield 129, 3) := by decide +kernel
theorem d_Desk_exact_41 : decode b_Desk_exact 41 = .ok (.ireturn, 1) := by decide +kernel
theorem d_Desk_letter_0 : decode b_Desk_letter 0 = .ok (.iload_n 1, 1) := by decide +kernel
theorem d_Desk_letter_1 : decode b_Desk_letter 1 = .ok (.ifCond .lt 14, 3) := by decide +kernel
theorem d_Desk_letter_4 : decode b_Desk_letter 4 = .ok (.iload_n 1, 1) := by decide +kernel
theorem d_Desk_letter_5 : decode b_Desk_letter 5 = .ok (.aload_n 0, 1) := by decide +kernel
theorem d_Desk_letter_6 : decode b_Desk_letter 6 = .ok (.getfield 54, 3) := by decide +kernel
theorem d_Desk_letter_9 : decode b_Desk_letter 9 = .ok (.getfield 129, 3) := by decide +kernel
theorem d_Desk_letter_12 : decode b_Desk_letter 12 = .ok (.if_icmp .lt 13, 3) := by decide +kernel
theorem d_Desk_letter_15 : decode b_Desk_letter 15 = .ok (.new 135, 3) := by decide +kernel
theorem d_Desk_letter_18 : decode b_Desk_letter 18 = .ok (.dup, 1) := by decide +kernel
theorem d_Desk_letter_19 : decode b_Desk_letter 19 = .ok (.ldc 137, 2) := by decide +kernel
theorem d_Desk_letter_21 : decode b_Desk_letter 21 = .ok (.invokespecial 139, 3) := by decide +kernel
theorem d_Desk_letter_24 : decode b_Desk_letter 24 = .ok (.athrow, 1) := by decide +kernel
theorem d_Desk_letter_25 : decode b_Desk_letter 25 = .ok (.aload_n 0, 1) := by decide +kernel
theorem d_Desk_letter_26 : decode b_Desk_letter 26 = .ok (.getfield 54, 3) := by decide +kernel
theorem d_Desk_letter_29 : decode b_Desk_letter 29 = .ok (.iload_n 1, 1) := by decide +kernel
theorem d_Desk_letter_30 : decode b_Desk_letter 30 = .ok (.invokevirtual 140, 3) := by decide +kernel
theorem d_Desk_letter_33 : decode b_Desk_letter 33 = .ok (.ireturn, 1) := by decide +kernel
theorem d_Desk_next_0 : decode b_Desk_next 0 = .ok (.aload_n 0, 1) := by decide +kernel
theorem d_Desk_next_1 : decode b_Desk_next 1 = .ok (.getfield 10, 3) := by decide +kernel
theorem d_Desk_next_4 : decode b_Desk_next 4 = .ok (.lload_n 1, 1) := by decide +kernel
theorem d_Desk_next_5 : decode b_Desk_next 5 = .ok (.invokevirtual 116, 3) := by decide +kernel
theorem d_Desk_next_8 : decode b_Desk_next 8 = .ok (.ifCond .eq 22, 3) := by decide +kernel
theorem d_Desk_next_11 : decode b_Desk_next 11 = .ok (.aload_n 0, 1) := by decide +kernel
theorem d_Desk_next_12 : decode b_Desk_next 12 = .ok (.getfield 10, 3) := by decide +kernel
theorem d_Desk_next_15 : decode b_Desk_next 15 = .ok (.lload_n 1, 1) := by decide +kernel
theorem d_Desk_next_16 : decode b_Desk_next 16 = .ok (.invokevirtual 144, 3) := by decide +kernel
theorem d_Desk_next_19 : decode b_Desk_next 19 = .ok (.aload_n 0, 1) := by decide +kernel
theorem d_Desk_next_20 : decode b_Desk_next 20 = .ok (.getfield 10, 3) := by decide +kernel
theorem d_Desk_next_23 : decode b_Desk_next 23 = .ok (.invokevirtual 97, 3) := by decide +kernel
theorem d_Desk_next_26 : decode b_Desk_next 26 = .ok (.lcmp, 1) := by decide +kernel
theorem d_Desk_next_27 : decode b_Desk_next 27 = .ok (.ifCond .lt 7, 3) := by decide +kernel
theorem d_Desk_next_30 : decode b_Desk_next 30 = .ok (.ldc2_w 148, 3) := by decide +kernel
theorem d_Desk_next_33 : decode b_Desk_next 33 = .ok (.lreturn, 1) := by decide +kernel
theorem d_Desk_next_34 : decode b_Desk_next 34 = .ok (.aload_n 0, 1) := by decide +kernel
theorem d_Desk_next_35 : decode b_Desk_next 35 = .ok (.getfield 10, 3) := by decide +kernel
theorem d_Desk_next_38 : decode b_Desk_next 38 = .ok (.lload_n 1, 1) := by decide +kernel
theorem d_Desk_next_39 : decode b_Desk_next 39 = .ok (.invokevirtual 144, 3) := by decide +kernel
theorem d_Desk_next_42 : decode b_Desk_next 42 = .ok (.lconst 0, 1) := by decide +kernel
theorem d_Desk_next_43 : decode b_Desk_next 43 = .ok (.lcmp, 1) := by decide +kernel
theorem d_Desk_next_44 : decode b_Desk_next 44 = .ok (.ifCond .ne 21, 3) := by decide +kernel
theorem d_Desk_next_47 : decode b_Desk_next 47 = .ok (.iload_n 3, 1) := by decide +kernel
theorem d_Desk_next_48 : decode b_Desk_next 48 = .ok (.ifCond .eq 7, 3) := by decide +kernel
theorem d_Desk_next_51 : decode b_Desk_next 51 = .ok (.lconst 1, 1) := by decide +kernel
theorem d_Desk_next_52 : decode b_Desk_next 52 = .ok (.goto 12, 3) := by decide +kernel
theorem d_Desk_next_55 : decode b_Desk_next 55 = .ok (.aload_n 0, 1) := by decide +kernel
theorem d_Desk_next_56 : decode b_Desk_next 56 = .ok (.getfield 10, 3) := by decide +kernel
theorem d_Desk_next_59 : decode b_Desk_next 59 = .ok (.invokevirtual 113, 3) := by decide +kernel
theorem d_Desk_next_62 : decode b_Desk_next 62 = .ok (.lconst 1, 1) := by decide +kernel
theorem d_Desk_next_63 : decode b_Desk_next 63 = .ok (.ladd, 1) := by decide +kernel
theorem d_Desk_next_64 : decode b_Desk_next 64 = .ok (.lreturn, 1) := by decide +kernel
theorem d_Desk_next_65 : decode b_Desk_next 65 = .ok (.iload_n 3, 1) := by decide +kernel
theorem d_Desk_next_66 : decode b_Desk_next 66 = .ok (.aload_n 0, 1) := by decide +kernel
theorem d_Desk_next_67 : decode b_Desk_next 67 = .ok (.getfield 10, 3) := by decide +kernel
theorem d_Desk_next_70 : decode b_Desk_next 70 = .ok (.lload_n 1, 1) := by decide +kernel
theorem d_Desk_next_71 : decode b_Desk_next 71 = .ok (.invokevirtual 150, 3) := by decide +kernel
theorem d_Desk_next_74 : decode b_Desk_next 74 = .ok (.if_icmp .eq 7, 3) := by decide +kernel
theorem d_Desk_next_77 : decode b_Desk_next 77 = .ok (.iconst 1, 1) := by decide +kernel
theorem d_Desk_next_78 : decode b_Desk_next 78 = .ok (.goto 4, 3) := by decide +kernel
theorem d_Desk_next_81 : decode b_Desk_next 81 = .ok (.iconst 0, 1) := by decide +kernel
theorem d_Desk_next_82 : decode b_Desk_next 82 = .ok (.istore 4, 2) := by decide +kernel
theorem d_Desk_next_84 : decode b_Desk_next 84 = .ok (.iload 4, 2) := by decide +kernel
theorem d_Desk_next_86 : decode b_Desk_next 86 = .ok (.ifCond .eq 9, 3) := by decide +kernel
theorem d_Desk_next_89 : decode b_Desk_next 89 = .ok (.lload_n 1, 1) := by decide +kernel
theorem d_Desk_next_90 : decode b_Desk_next 90 = .ok (.lconst 1, 1) := by decide +kernel
theorem d_Desk_next_91 : decode b_Desk_next 91 = .ok (.ladd, 1) := by decide +kernel
theorem d_Desk_next_92 : decode b_Desk_next 92 = .ok (.goto 6, 3) := by decide +kernel
theorem d_Desk_next_95 : decode b_Desk_next 95 = .ok (.lload_n 1, 1) := by decide +kernel
theorem d_Desk_next_96 : decode b_Desk_next 96 = .ok (.lconst 1, 1) := by decide +kernel
theorem d_Desk_next_97 : decode b_Desk_next 97 = .ok (.lsub, 1) := by decide +kernel
theorem d_Desk_next_98 : decode b_Desk_next 98 = .ok (.lreturn, 1) := by decide +kernel
theorem d_Desk_sizeByOverflow_0 : decode b_Desk_sizeByOverflow 0 = .ok (.aload_n 0, 1) := by decide +kernel
theorem d_Desk_sizeByOverflow_1 : decode b_Desk_sizeByOverflow 1 = .ok (.getfield 58, 3) := by decide +kernel
theorem d_Desk_sizeByOverflow_4 : decode b_Desk_sizeByOverflow 4 = .ok (.iconst 1, 1) := by decide +kernel
theorem d_Desk_sizeByOverflow_5 : decode b_Desk_sizeByOverflow 5 = .ok (.if_icmp .eq 27, 3) := by decide +kernel
theorem d_Desk_sizeByOverflow_8 : decode b_Desk_sizeByOverflow 8 = .ok (.aload_n 0, 1) := by decide +kernel
theorem d_Desk_sizeByOverflow_9 : decode b_Desk_sizeByOverflow 9 = .ok (.getfield 58, 3) := by decide +kernel
theorem d_Desk_sizeByOverflow_12 : decode b_Desk_sizeByOverflow 12 = .ok (.iconst 2, 1) := by decide +kernel
theorem d_Desk_sizeByOverflow_13 : decode b_Desk_sizeByOverflow 13 = .ok (.if_icmp .ne 7, 3) := by decide +kernel
theorem d_Desk_sizeByOverflow_16 : decode b_Desk_sizeByOverflow 16 = .ok (.iload_n 1, 1) := by decide +kernel
theorem d_Desk_sizeByOverflow_17 : decode b_Desk_sizeByOverflow 17 = .ok (.ifCond .ne 15, 3) := by decide +kernel
theorem d_Desk_sizeByOverflow_20 : decode b_Desk_sizeByOverflow 20 = .ok (.aload_n 0, 1) := by decide +kernel
theorem d_Desk_sizeByOverflow_21 : decode b_Desk_sizeByOverflow 21 = .ok (.getfield 58, 3) := by decide +kernel
theorem d_Desk_sizeByOverflow_24 : decode b_Desk_sizeByOverflow 24 = .ok (.iconst 3, 1) := by decide +kernel
theorem d_Desk_sizeByOverflow_25 : decode b_Desk_sizeByOverflow 25 = .ok (.if_icmp .ne 11, 3) := by decide +kernel
theorem d_Desk_sizeByOverflow_28 : decode b_Desk_sizeByOverflow 28 = .ok (.iload_n 1, 1) := by decide +kernel
theorem d_Desk_sizeByOverflow_29 : decode b_Desk_sizeByOverflow 29 = .ok (.ifCond .ne 7, 3) := by decide +kernel
theorem d_Desk_sizeByOverflow_32 : decode b_Desk_sizeByOverflow 32 = .ok (.iconst 1, 1) := by decide +kernel
theorem d_Desk_sizeByOverflow_33 : decode b_Desk_sizeByOverflow 33 = .ok (.goto 4, 3) := by decide +kernel
theorem d_Desk_sizeByOverflow_36 : decode b_Desk_sizeByOverflow 36 = .ok (.iconst 0, 1) := by decide +kernel
theorem d_Desk_sizeByOverflow_37 : decode b_Desk_sizeByOverflow 37 = .ok (.istore_n 2, 1) := by decide +kernel
theorem d_Desk_sizeByOverflow_38 : decode b_Desk_sizeByOverflow 38 = .ok (.iload_n 2, 1) := by decide +kernel
theorem d_Desk_sizeByOverflow_39 : decode b_Desk_sizeByOverflow 39 = .ok (.ifCond .eq 15, 3) := by decide +kernel
theorem d_Desk_sizeByOverflow_42 : decode b_Desk_sizeByOverflow 42 = .ok (.aload_n 0, 1) := by decide +kernel
theorem d_Desk_sizeByOverflow_43 : decode b_Desk_sizeByOverflow 43 = .ok (.getfield 10, 3) := by decide +kernel
theorem d_Desk_sizeByOverflow_46 : decode b_Desk_sizeByOverflow 46 = .ok (.invokevirtual 97, 3) := by decide +kernel
theorem d_Desk_sizeByOverflow_49 : decode b_Desk_sizeByOverflow 49 = .ok (.lconst 1, 1) := by decide +kernel
theorem d_Desk_sizeByOverflow_50 : decode b_Desk_sizeByOverflow 50 = .ok (.lsub, 1) := by decide +kernel
theorem d_Desk_sizeByOverflow_51 : decode b_Desk_sizeByOverflow 51 = .ok (.goto 10, 3) := by decide +kernel
theorem d_Desk_sizeByOverflow_54 : decode b_Desk_sizeByOverflow 54 = .ok (.aload_n 0, 1) := by decide +kernel
theorem d_Desk_sizeByOverflow_55 : decode b_Desk_sizeByOverflow 55 = .ok (.getfield 10, 3) := by decide +kernel
theorem d_Desk_sizeByOverflow_58 : decode b_Desk_sizeByOverflow 58 = .ok (.invokevirtual 97, 3) := by decide +kernel
theorem d_Desk_sizeByOverflow_61 : decode b_Desk_sizeByOverflow 61 = .ok (.lreturn, 1) := by decide +kernel
theorem d_Desk_raiseFlags_0 : decode b_Desk_raiseFlags 0 = .ok (.iload_n 1, 1) := by decide +kernel
theorem d_Desk_raiseFlags_1 : decode b_Desk_raiseFlags 1 = .ok (.ifCond .eq 15, 3) := by decide +kernel
theorem d_Desk_raiseFlags_4 : decode b_Desk_raiseFlags 4 = .ok (.aload_n 0, 1) := by decide +kernel
theorem d_Desk_raiseFlags_5 : decode b_Desk_raiseFlags 5 = .ok (.aload_n 0, 1) := by decide +kernel
theorem d_Desk_raiseFlags_6 : decode b_Desk_raiseFlags 6 = .ok (.getfield 62, 3) := by decide +kernel
theorem d_Desk_raiseFlags_9 : decode b_Desk_raiseFlags 9 = .ok (.iconst 1, 1) := by decide +kernel
theorem d_Desk_raiseFlags_10 : decode b_Desk_raiseFlags 10 = .ok (.ior, 1) := by decide +kernel
theorem d_Desk_raiseFlags_11 : decode b_Desk_raiseFlags 11 = .ok (.iconst 2, 1) := by decide +kernel
theorem d_Desk_raiseFlags_12 : decode b_Desk_raiseFlags 12 = .ok (.ior, 1) := by decide +kernel
theorem d_Desk_raiseFlags_13 : decode b_Desk_raiseFlags 13 = .ok (.putfield 62, 3) := by decide +kernel
theorem d_Desk_raiseFlags_16 : decode b_Desk_raiseFlags 16 = .ok (.aload_n 0, 1) := by decide +kernel
theorem d_Desk_raiseFlags_17 : decode b_Desk_raiseFlags 17 = .ok (.getfield 33, 3) := by decide +kernel
theorem d_Desk_raiseFlags_20 : decode b_Desk_raiseFlags 20 = .ok (.getfield 153, 3) := by decide +kernel
theorem d_Desk_raiseFlags_23 : decode b_Desk_raiseFlags 23 = .ok (.ifCond .eq 33, 3) := by decide +kernel
theorem d_Desk_raiseFlags_26 : decode b_Desk_raiseFlags 26 = .ok (.aload_n 0, 1) := by decide +kernel
theorem d_Desk_raiseFlags_27 : decode b_Desk_raiseFlags 27 = .ok (.aload_n 0, 1) := by decide +kernel
theorem d_Desk_raiseFlags_28 : decode b_Desk_raiseFlags 28 = .ok (.getfield 62, 3) := by decide +kernel
theorem d_Desk_raiseFlags_31 : decode b_Desk_raiseFlags 31 = .ok (.iconst 1, 1) := by decide +kernel
theorem d_Desk_raiseFlags_32 : decode b_Desk_raiseFlags 32 = .ok (.ior, 1) := by decide +kernel
theorem d_Desk_raiseFlags_33 : decode b_Desk_raiseFlags 33 = .ok (.putfield 62, 3) := by decide +kernel
theorem d_Desk_raiseFlags_36 : decode b_Desk_raiseFlags 36 = .ok (.aload_n 0, 1) := by decide +kernel
theorem d_Desk_raiseFlags_37 : decode b_Desk_raiseFlags 37 = .ok (.getfield 33, 3) := by decide +kernel
theorem d_Desk_raiseFlags_40 : decode b_Desk_raiseFlags 40 = .ok (.getfield 156, 3) := by decide +kernel
theorem d_Desk_raiseFlags_43 : decode b_Desk_raiseFlags 43 = .ok (.ifCond .eq 13, 3) := by decide +kernel
theorem d_Desk_raiseFlags_46 : decode b_Desk_raiseFlags 46 = .ok (.aload_n 0, 1) := by decide +kernel
theorem d_Desk_raiseFlags_47 : decode b_Desk_raiseFlags 47 = .ok (.aload_n 0, 1) := by decide +kernel
theorem d_Desk_raiseFlags_48 : decode b_Desk_raiseFlags 48 = .ok (.getfield 62, 3) := by decide +kernel
theorem d_Desk_raiseFlags_51 : decode b_Desk_raiseFlags 51 = .ok (.iconst 4, 1) := by decide +kernel
theorem d_Desk_raiseFlags_52 : decode b_Desk_raiseFlags 52 = .ok (.ior, 1) := by decide +kernel
theorem d_Desk_raiseFlags_53 : decode b_Desk_raiseFlags 53 = .ok (.putfield 62, 3) := by decide +kernel
theorem d_Desk_raiseFlags_56 : decode b_Desk_raiseFlags 56 = .ok (.return_, 1) := by decide +kernel
theorem d_Desk_tellNotFinite_0 : decode b_Desk_tellNotFinite 0 = .ok (.aload_n 0, 1) := by decide +kernel
theorem d_Desk_tellNotFinite_1 : decode b_Desk_tellNotFinite 1 = .ok (.getfield 10, 3) := by decide +kernel
theorem d_Desk_tellNotFinite_4 : decode b_Desk_tellNotFinite 4 = .ok (.lload_n 1, 1) := by decide +kernel
theorem d_Desk_tellNotFinite_5 : decode b_Desk_tellNotFinite 5 = .ok (.invokevirtual 144, 3) := by decide +kernel
theorem d_Desk_tellNotFinite_8 : decode b_Desk_tellNotFinite 8 = .ok (.lstore_n 3, 1) := by decide +kernel
theorem d_Desk_tellNotFinite_9 : decode b_Desk_tellNotFinite 9 = .ok (.lload_n 3, 1) := by decide +kernel
theorem d_Desk_tellNotFinite_10 : decode b_Desk_tellNotFinite 10 = .ok (.aload_n 0, 1) := by decide +kernel
theorem d_Desk_tellNotFinite_11 : decode b_Desk_tellNotFinite 11 = .ok (.getfield 10, 3) := by decide +kernel
theorem d_Desk_tellNotFinite_14 : decode b_Desk_tellNotFinite 14 = .ok (.invokevirtual 97, 3) := by decide +kernel
theorem d_Desk_tellNotFinite_17 : decode b_Desk_tellNotFinite 17 = .ok (.lcmp, 1) := by decide +kernel
theorem d_Desk_tellNotFinite_18 : decode b_Desk_tellNotFinite 18 = .ok (.ifCond .ge 5, 3) := by decide +kernel
theorem d_Desk_tellNotFinite_21 : decode b_Desk_tellNotFinite 21 = .ok (.iconst 0, 1) := by decide +kernel
theorem d_Desk_tellNotFinite_22 : decode b_Desk_tellNotFinite 22 = .ok (.ireturn, 1) := by decide +kernel
theorem d_Desk_tellNotFinite_23 : decode b_Desk_tellNotFinite 23 = .ok (.aload_n 0, 1) := by decide +kernel
theorem d_Desk_tellNotFinite_24 : decode b_Desk_tellNotFinite 24 = .ok (.getfield 54, 3) := by decide +kernel
theorem d_Desk_tellNotFinite_27 : decode b_Desk_tellNotFinite 27 = .ok (.lload_n 3, 1) := by decide +kernel
theorem d_Desk_tellNotFinite_28 : decode b_Desk_tellNotFinite 28 = .ok (.aload_n 0, 1) := by decide +kernel
theorem d_Desk_tellNotFinite_29 : decode b_Desk_tellNotFinite 29 = .ok (.getfield 10, 3) := by decide +kernel
theorem d_Desk_tellNotFinite_32 : decode b_Desk_tellNotFinite 32 = .ok (.invokevirtual 97, 3) := by decide +kernel
theorem d_Desk_tellNotFinite_35 : decode b_Desk_tellNotFinite 35 = .ok (.lcmp, 1) := by decide +kernel
theorem d_Desk_tellNotFinite_36 : decode b_Desk_tellNotFinite 36 = .ok (.ifCond .ne 18, 3) := by decide +kernel
theorem d_Desk_tellNotFinite_39 : decode b_Desk_tellNotFinite 39 = .ok (.aload_n 0, 1) := by decide +kernel
theorem d_Desk_tellNotFinite_40 : decode b_Desk_tellNotFinite 40 = .ok (.getfield 10, 3) := by decide +kernel
theorem d_Desk_tellNotFinite_43 : decode b_Desk_tellNotFinite 43 = .ok (.lload_n 1, 1) := by decide +kernel
theorem d_Desk_tellNotFinite_44 : decode b_Desk_tellNotFinite 44 = .ok (.invokevirtual 150, 3) := by decide +kernel
theorem d_Desk_tellNotFinite_47 : decode b_Desk_tellNotFinite 47 = .ok (.ifCond .eq 7, 3) := by decide +kernel
theorem d_Desk_tellNotFinite_50 : decode b_Desk_tellNotFinite 50 = .ok (.iconst 1, 1) := by decide +kernel
theorem d_Desk_tellNotFinite_51 : decode b_Desk_tellNotFinite 51 = .ok (.goto 4, 3) := by decide +kernel
theorem d_Desk_tellNotFinite_54 : decode b_Desk_tellNotFinite 54 = .ok (.iconst 0, 1) := by decide +kernel
theorem d_Desk_tellNotFinite_55 : decode b_Desk_tellNotFinite 55 = .ok (.invokevirtual 159, 3) := by decide +kernel
theorem d_Desk_tellNotFinite_58 : decode b_Desk_tellNotFinite 58 = .ok (.lload_n 3, 1) := by decide +kernel
theorem d_Desk_tellNotFinite_59 : decode b_Desk_tellNotFinite 59 = .ok (.aload_n 0, 1) := by decide +kernel
theorem d_Desk_tellNotFinite_60 : decode b_Desk_tellNotFinite 60 = .ok (.getfield 10, 3) := by decide +kernel
theorem d_Desk_tellNotFinite_63 : decode b_Desk_tellNotFinite 63 = .ok (.invokevirtual 97, 3) := by decide +kernel
theorem d_Desk_tellNotFinite_66 : decode b_Desk_tellNotFinite 66 = .ok (.lcmp, 1) := by decide +kernel
theorem d_Desk_tellNotFinite_67 : decode b_Desk_tellNotFinite 67 = .ok (.ifCond .ne 33, 3) := by decide +kernel
theorem d_Desk_tellNotFinite_70 : decode b_Desk_tellNotFinite 70 = .ok (.aload_n 0, 1) := by decide +kernel
theorem d_Desk_tellNotFinite_71 : decode b_Desk_tellNotFinite 71 = .ok (.getfield 54, 3) := by decide +kernel
theorem d_Desk_tellNotFinite_74 : decode b_Desk_tellNotFinite 74 = .ok (.bipush 105, 2) := by decide +kernel
theorem d_Desk_tellNotFinite_76 : decode b_Desk_tellNotFinite 76 = .ok (.invokevirtual 162, 3) := by decide +kernel
theorem d_Desk_tellNotFinite_79 : decode b_Desk_tellNotFinite 79 = .ok (.aload_n 0, 1) := by decide +kernel
theorem d_Desk_tellNotFinite_80 : decode b_Desk_tellNotFinite 80 = .ok (.getfield 54, 3) := by decide +kernel
theorem d_Desk_tellNotFinite_83 : decode b_Desk_tellNotFinite 83 = .ok (.bipush 110, 2) := by decide +kernel
theorem d_Desk_tellNotFinite_85 : decode b_Desk_tellNotFinite 85 = .ok (.invokevirtual 162, 3) := by decide +kernel
theorem d_Desk_tellNotFinite_88 : decode b_Desk_tellNotFinite 88 = .ok (.aload_n 0, 1) := by decide +kernel
theorem d_Desk_tellNotFinite_89 : decode b_Desk_tellNotFinite 89 = .ok (.getfield 54, 3) := by decide +kernel
theorem d_Desk_tellNotFinite_92 : decode b_Desk_tellNotFinite 92 = .ok (.bipush 102, 2) := by decide +kernel
theorem d_Desk_tellNotFinite_94 : decode b_Desk_tellNotFinite 94 = .ok (.invokevirtual 162, 3) := by decide +kernel
theorem d_Desk_tellNotFinite_97 : decode b_Desk_tellNotFinite 97 = .ok (.goto 30, 3) := by decide +kernel
theorem d_Desk_tellNotFinite_100 : decode b_Desk_tellNotFinite 100 = .ok (.aload_n 0, 1) := by decide +kernel
theorem d_Desk_tellNotFinite_101 : decode b_Desk_tellNotFinite 101 = .ok (.getfield 54, 3) := by decide +kernel
theorem d_Desk_tellNotFinite_104 : decode b_Desk_tellNotFinite 104 = .ok (.bipush 110, 2) := by decide +kernel
theorem d_Desk_tellNotFinite_106 : decode b_Desk_tellNotFinite 106 = .ok (.invokevirtual 162, 3) := by decide +kernel
theorem d_Desk_tellNotFinite_109 : decode b_Desk_tellNotFinite 109 = .ok (.aload_n 0, 1) := by decide +kernel
theorem d_Desk_tellNotFinite_110 : decode b_Desk_tellNotFinite 110 = .ok (.getfield 54, 3) := by decide +kernel
theorem d_Desk_tellNotFinite_113 : decode b_Desk_tellNotFinite 113 = .ok (.bipush 97, 2) := by decide +kernel
theorem d_Desk_tellNotFinite_115 : decode b_Desk_tellNotFinite 115 = .ok (.invokevirtual 162, 3) := by decide +kernel
theorem d_Desk_tellNotFinite_118 : decode b_Desk_tellNotFinite 118 = .ok (.aload_n 0, 1) := by decide +kernel
theorem d_Desk_tellNotFinite_119 : decode b_Desk_tellNotFinite 119 = .ok (.getfield 54, 3) := by decide +kernel
theorem d_Desk_tellNotFinite_122 : decode b_Desk_tellNotFinite 122 = .ok (.bipush 110, 2) := by decide +kernel
theorem d_Desk_tellNotFinite_124 : decode b_Desk_tellNotFinite 124 = .ok (.invokevirtual 162, 3) := by decide +kernel
theorem d_Desk_tellNotFinite_127 : decode b_Desk_tellNotFinite 127 = .ok (.iconst 1, 1) := by decide +kernel
theorem d_Desk_tellNotFinite_128 : decode b_Desk_tellNotFinite 128 = .ok (.ireturn, 1) := by decide +kernel
theorem d_Desk_tellShortest_0 : decode b_Desk_tellShortest 0 = .ok (.aload_n 0, 1) := by decide +kernel
theorem d_Desk_tellShortest_1 : decode b_Desk_tellShortest 1 = .ok (.getfield 54, 3) := by decide +kernel
theorem d_Desk_tellShortest_4 : decode b_Desk_tellShortest 4 = .ok (.aload_n 0, 1) := by decide +kernel
theorem d_Desk_tellShortest_5 : decode b_Desk_tellShortest 5 = .ok (.getfield 10, 3) := by decide +kernel
theorem d_Desk_tellShortest_8 : decode b_Desk_tellShortest 8 = .ok (.lload_n 1, 1) := by decide +kernel
theorem d_Desk_tellShortest_9 : decode b_Desk_tellShortest 9 = .ok (.invokevirtual 150, 3) := by decide +kernel
theorem d_Desk_tellShortest_12 : decode b_Desk_tellShortest 12 = .ok (.invokevirtual 159, 3) := by decide +kernel
theorem d_Desk_tellShortest_15 : decode b_Desk_tellShortest 15 = .ok (.aload_n 0, 1) := by decide +kernel
theorem d_Desk_tellShortest_16 : decode b_Desk_tellShortest 16 = .ok (.getfield 10, 3) := by decide +kernel
theorem d_Desk_tellShortest_19 : decode b_Desk_tellShortest 19 = .ok (.lload_n 1, 1) := by decide +kernel
theorem d_Desk_tellShortest_20 : decode b_Desk_tellShortest 20 = .ok (.invokevirtual 144, 3) := by decide +kernel
theorem d_Desk_tellShortest_23 : decode b_Desk_tellShortest 23 = .ok (.lstore_n 3, 1) := by decide +kernel
theorem d_Desk_tellShortest_24 : decode b_Desk_tellShortest 24 = .ok (.lload_n 3, 1) := by decide +kernel
theorem d_Desk_tellShortest_25 : decode b_Desk_tellShortest 25 = .ok (.lconst 0, 1) := by decide +kernel
theorem d_Desk_tellShortest_26 : decode b_Desk_tellShortest 26 = .ok (.lcmp, 1) := by decide +kernel
theorem d_Desk_tellShortest_27 : decode b_Desk_tellShortest 27 = .ok (.ifCond .ne 21, 3) := by decide +kernel
theorem d_Desk_tellShortest_30 : decode b_Desk_tellShortest 30 = .ok (.aload_n 0, 1) := by decide +kernel
theorem d_Desk_tellShortest_31 : decode b_Desk_tellShortest 31 = .ok (.getfield 54, 3) := by decide +kernel
theorem d_Desk_tellShortest_34 : decode b_Desk_tellShortest 34 = .ok (.bipush 48, 2) := by decide +kernel
theorem d_Desk_tellShortest_36 : decode b_Desk_tellShortest 36 = .ok (.invokevirtual 162, 3) := by decide +kernel
theorem d_Desk_tellShortest_39 : decode b_Desk_tellShortest 39 = .ok (.aload_n 0, 1) := by decide +kernel
theorem d_Desk_tellShortest_40 : decode b_Desk_tellShortest 40 = .ok (.getfield 54, 3) := by decide +kernel
theorem d_Desk_tellShortest_43 : decode b_Desk_tellShortest 43 = .ok (.iconst 0, 1) := by decide +kernel
theorem d_Desk_tellShortest_44 : decode b_Desk_tellShortest 44 = .ok (.invokevirtual 166, 3) := by decide +kernel
theorem d_Desk_tellShortest_47 : decode b_Desk_tellShortest 47 = .ok (.return_, 1) := by decide +kernel
theorem d_Desk_tellShortest_48 : decode b_Desk_tellShortest 48 = .ok (.aload_n 0, 1) := by decide +kernel
theorem d_Desk_tellShortest_49 : decode b_Desk_tellShortest 49 = .ok (.getfield 40, 3) := by decide +kernel
theorem d_Desk_tellShortest_52 : decode b_Desk_tellShortest 52 = .ok (.lload_n 3, 1) := by decide +kernel
theorem d_Desk_tellShortest_53 : decode b_Desk_tellShortest 53 = .ok (.aload_n 0, 1) := by decide +kernel
theorem d_Desk_tellShortest_54 : decode b_Desk_tellShortest 54 = .ok (.getfield 10, 3) := by decide +kernel
theorem d_Desk_tellShortest_57 : decode b_Desk_tellShortest 57 = .ok (.invokevirtual 169, 3) := by decide +kernel
theorem d_Desk_tellShortest_60 : decode b_Desk_tellShortest 60 = .ok (.aload_n 0, 1) := by decide +kernel
theorem d_Desk_tellShortest_61 : decode b_Desk_tellShortest 61 = .ok (.getfield 54, 3) := by decide +kernel
theorem d_Desk_tellShortest_64 : decode b_Desk_tellShortest 64 = .ok (.aload_n 0, 1) := by decide +kernel
theorem d_Desk_tellShortest_65 : decode b_Desk_tellShortest 65 = .ok (.getfield 40, 3) := by decide +kernel
theorem d_Desk_tellShortest_68 : decode b_Desk_tellShortest 68 = .ok (.getfield 173, 3) := by decide +kernel
theorem d_Desk_tellShortest_71 : decode b_Desk_tellShortest 71 = .ok (.aload_n 0, 1) := by decide +kernel
theorem d_Desk_tellShortest_72 : decode b_Desk_tellShortest 72 = .ok (.getfield 40, 3) := by decide +kernel
theorem d_Desk_tellShortest_75 : decode b_Desk_tellShortest 75 = .ok (.getfield 175, 3) := by decide +kernel
theorem d_Desk_tellShortest_78 : decode b_Desk_tellShortest 78 = .ok (.iconst 1, 1) := by decide +kernel
theorem d_Desk_tellShortest_79 : decode b_Desk_tellShortest 79 = .ok (.invokevirtual 178, 3) := by decide +kernel
theorem d_Desk_tellShortest_82 : decode b_Desk_tellShortest 82 = .ok (.aload_n 0, 1) := by decide +kernel
theorem d_Desk_tellShortest_83 : decode b_Desk_tellShortest 83 = .ok (.getfield 54, 3) := by decide +kernel
theorem d_Desk_tellShortest_86 : decode b_Desk_tellShortest 86 = .ok (.aload_n 0, 1) := by decide +kernel
theorem d_Desk_tellShortest_87 : decode b_Desk_tellShortest 87 = .ok (.getfield 40, 3) := by decide +kernel
theorem d_Desk_tellShortest_90 : decode b_Desk_tellShortest 90 = .ok (.getfield 182, 3) := by decide +kernel
theorem d_Desk_tellShortest_93 : decode b_Desk_tellShortest 93 = .ok (.invokevirtual 166, 3) := by decide +kernel
theorem d_Desk_tellShortest_96 : decode b_Desk_tellShortest 96 = .ok (.return_, 1) := by decide +kernel
theorem d_Desk_tellAllDigits_0 : decode b_Desk_tellAllDigits 0 = .ok (.aload_n 0, 1) := by decide +kernel
theorem d_Desk_tellAllDigits_1 : decode b_Desk_tellAllDigits 1 = .ok (.getfield 54, 3) := by decide +kernel
