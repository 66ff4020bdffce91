theorem d_Natural_init_0 : decode b_Natural_init 0 = .ok (.aload_n 0, 1) := by decide +kernel
theorem d_Natural_init_1 : decode b_Natural_init 1 = .ok (.invokespecial 1, 3) := by decide +kernel
theorem d_Natural_init_4 : decode b_Natural_init 4 = .ok (.aload_n 0, 1) := by decide +kernel
theorem d_Natural_init_5 : decode b_Natural_init 5 = .ok (.bipush 12, 2) := by decide +kernel
theorem d_Natural_init_7 : decode b_Natural_init 7 = .ok (.newarray .int, 2) := by decide +kernel
theorem d_Natural_init_9 : decode b_Natural_init 9 = .ok (.putfield 9, 3) := by decide +kernel
theorem d_Natural_init_12 : decode b_Natural_init 12 = .ok (.return_, 1) := by decide +kernel
theorem d_Natural_set_0 : decode b_Natural_set 0 = .ok (.iconst 2, 1) := by decide +kernel
theorem d_Natural_set_1 : decode b_Natural_set 1 = .ok (.istore_n 3, 1) := by decide +kernel
theorem d_Natural_set_2 : decode b_Natural_set 2 = .ok (.iload_n 3, 1) := by decide +kernel
theorem d_Natural_set_3 : decode b_Natural_set 3 = .ok (.bipush 12, 2) := by decide +kernel
theorem d_Natural_set_5 : decode b_Natural_set 5 = .ok (.if_icmp .ge 16, 3) := by decide +kernel
theorem d_Natural_set_8 : decode b_Natural_set 8 = .ok (.aload_n 0, 1) := by decide +kernel
theorem d_Natural_set_9 : decode b_Natural_set 9 = .ok (.getfield 9, 3) := by decide +kernel
theorem d_Natural_set_12 : decode b_Natural_set 12 = .ok (.iload_n 3, 1) := by decide +kernel
theorem d_Natural_set_13 : decode b_Natural_set 13 = .ok (.iconst 0, 1) := by decide +kernel
theorem d_Natural_set_14 : decode b_Natural_set 14 = .ok (.iastore, 1) := by decide +kernel
theorem d_Natural_set_15 : decode b_Natural_set 15 = .ok (.iinc 3 1, 3) := by decide +kernel
theorem d_Natural_set_18 : decode b_Natural_set 18 = .ok (.goto (-16), 3) := by decide +kernel
theorem d_Natural_set_21 : decode b_Natural_set 21 = .ok (.aload_n 0, 1) := by decide +kernel
theorem d_Natural_set_22 : decode b_Natural_set 22 = .ok (.getfield 9, 3) := by decide +kernel
theorem d_Natural_set_25 : decode b_Natural_set 25 = .ok (.iconst 0, 1) := by decide +kernel
theorem d_Natural_set_26 : decode b_Natural_set 26 = .ok (.lload_n 1, 1) := by decide +kernel
theorem d_Natural_set_27 : decode b_Natural_set 27 = .ok (.l2i, 1) := by decide +kernel
theorem d_Natural_set_28 : decode b_Natural_set 28 = .ok (.iastore, 1) := by decide +kernel
theorem d_Natural_set_29 : decode b_Natural_set 29 = .ok (.aload_n 0, 1) := by decide +kernel
theorem d_Natural_set_30 : decode b_Natural_set 30 = .ok (.getfield 9, 3) := by decide +kernel
theorem d_Natural_set_33 : decode b_Natural_set 33 = .ok (.iconst 1, 1) := by decide +kernel
theorem d_Natural_set_34 : decode b_Natural_set 34 = .ok (.lload_n 1, 1) := by decide +kernel
theorem d_Natural_set_35 : decode b_Natural_set 35 = .ok (.bipush 32, 2) := by decide +kernel
theorem d_Natural_set_37 : decode b_Natural_set 37 = .ok (.lushr, 1) := by decide +kernel
theorem d_Natural_set_38 : decode b_Natural_set 38 = .ok (.l2i, 1) := by decide +kernel
theorem d_Natural_set_39 : decode b_Natural_set 39 = .ok (.iastore, 1) := by decide +kernel
theorem d_Natural_set_40 : decode b_Natural_set 40 = .ok (.return_, 1) := by decide +kernel
theorem d_Natural_copy_0 : decode b_Natural_copy 0 = .ok (.iconst 0, 1) := by decide +kernel
theorem d_Natural_copy_1 : decode b_Natural_copy 1 = .ok (.istore_n 2, 1) := by decide +kernel
theorem d_Natural_copy_2 : decode b_Natural_copy 2 = .ok (.iload_n 2, 1) := by decide +kernel
theorem d_Natural_copy_3 : decode b_Natural_copy 3 = .ok (.bipush 12, 2) := by decide +kernel
theorem d_Natural_copy_5 : decode b_Natural_copy 5 = .ok (.if_icmp .ge 21, 3) := by decide +kernel
theorem d_Natural_copy_8 : decode b_Natural_copy 8 = .ok (.aload_n 0, 1) := by decide +kernel
theorem d_Natural_copy_9 : decode b_Natural_copy 9 = .ok (.getfield 9, 3) := by decide +kernel
theorem d_Natural_copy_12 : decode b_Natural_copy 12 = .ok (.iload_n 2, 1) := by decide +kernel
theorem d_Natural_copy_13 : decode b_Natural_copy 13 = .ok (.aload_n 1, 1) := by decide +kernel
theorem d_Natural_copy_14 : decode b_Natural_copy 14 = .ok (.getfield 9, 3) := by decide +kernel
theorem d_Natural_copy_17 : decode b_Natural_copy 17 = .ok (.iload_n 2, 1) := by decide +kernel
theorem d_Natural_copy_18 : decode b_Natural_copy 18 = .ok (.iaload, 1) := by decide +kernel
theorem d_Natural_copy_19 : decode b_Natural_copy 19 = .ok (.iastore, 1) := by decide +kernel
theorem d_Natural_copy_20 : decode b_Natural_copy 20 = .ok (.iinc 2 1, 3) := by decide +kernel
theorem d_Natural_copy_23 : decode b_Natural_copy 23 = .ok (.goto (-21), 3) := by decide +kernel
theorem d_Natural_copy_26 : decode b_Natural_copy 26 = .ok (.return_, 1) := by decide +kernel
theorem d_Natural_isZero_0 : decode b_Natural_isZero 0 = .ok (.iconst 0, 1) := by decide +kernel
theorem d_Natural_isZero_1 : decode b_Natural_isZero 1 = .ok (.istore_n 1, 1) := by decide +kernel
theorem d_Natural_isZero_2 : decode b_Natural_isZero 2 = .ok (.iload_n 1, 1) := by decide +kernel
theorem d_Natural_isZero_3 : decode b_Natural_isZero 3 = .ok (.bipush 12, 2) := by decide +kernel
theorem d_Natural_isZero_5 : decode b_Natural_isZero 5 = .ok (.if_icmp .ge 20, 3) := by decide +kernel
theorem d_Natural_isZero_8 : decode b_Natural_isZero 8 = .ok (.aload_n 0, 1) := by decide +kernel
theorem d_Natural_isZero_9 : decode b_Natural_isZero 9 = .ok (.getfield 9, 3) := by decide +kernel
theorem d_Natural_isZero_12 : decode b_Natural_isZero 12 = .ok (.iload_n 1, 1) := by decide +kernel
theorem d_Natural_isZero_13 : decode b_Natural_isZero 13 = .ok (.iaload, 1) := by decide +kernel
theorem d_Natural_isZero_14 : decode b_Natural_isZero 14 = .ok (.ifCond .eq 5, 3) := by decide +kernel
theorem d_Natural_isZero_17 : decode b_Natural_isZero 17 = .ok (.iconst 0, 1) := by decide +kernel
theorem d_Natural_isZero_18 : decode b_Natural_isZero 18 = .ok (.ireturn, 1) := by decide +kernel
theorem d_Natural_isZero_19 : decode b_Natural_isZero 19 = .ok (.iinc 1 1, 3) := by decide +kernel
theorem d_Natural_isZero_22 : decode b_Natural_isZero 22 = .ok (.goto (-20), 3) := by decide +kernel
theorem d_Natural_isZero_25 : decode b_Natural_isZero 25 = .ok (.iconst 1, 1) := by decide +kernel
theorem d_Natural_isZero_26 : decode b_Natural_isZero 26 = .ok (.ireturn, 1) := by decide +kernel
theorem d_Natural_against_0 : decode b_Natural_against 0 = .ok (.bipush 11, 2) := by decide +kernel
theorem d_Natural_against_2 : decode b_Natural_against 2 = .ok (.istore_n 2, 1) := by decide +kernel
theorem d_Natural_against_3 : decode b_Natural_against 3 = .ok (.iload_n 2, 1) := by decide +kernel
theorem d_Natural_against_4 : decode b_Natural_against 4 = .ok (.ifCond .lt 56, 3) := by decide +kernel
theorem d_Natural_against_7 : decode b_Natural_against 7 = .ok (.aload_n 0, 1) := by decide +kernel
theorem d_Natural_against_8 : decode b_Natural_against 8 = .ok (.getfield 9, 3) := by decide +kernel
theorem d_Natural_against_11 : decode b_Natural_against 11 = .ok (.iload_n 2, 1) := by decide +kernel
theorem d_Natural_against_12 : decode b_Natural_against 12 = .ok (.iaload, 1) := by decide +kernel
theorem d_Natural_against_13 : decode b_Natural_against 13 = .ok (.aload_n 1, 1) := by decide +kernel
theorem d_Natural_against_14 : decode b_Natural_against 14 = .ok (.getfield 9, 3) := by decide +kernel
theorem d_Natural_against_17 : decode b_Natural_against 17 = .ok (.iload_n 2, 1) := by decide +kernel
theorem d_Natural_against_18 : decode b_Natural_against 18 = .ok (.iaload, 1) := by decide +kernel
theorem d_Natural_against_19 : decode b_Natural_against 19 = .ok (.if_icmp .eq 35, 3) := by decide +kernel
theorem d_Natural_against_22 : decode b_Natural_against 22 = .ok (.aload_n 0, 1) := by decide +kernel
theorem d_Natural_against_23 : decode b_Natural_against 23 = .ok (.getfield 9, 3) := by decide +kernel
theorem d_Natural_against_26 : decode b_Natural_against 26 = .ok (.iload_n 2, 1) := by decide +kernel
theorem d_Natural_against_27 : decode b_Natural_against 27 = .ok (.iaload, 1) := by decide +kernel
theorem d_Natural_against_28 : decode b_Natural_against 28 = .ok (.i2l, 1) := by decide +kernel
theorem d_Natural_against_29 : decode b_Natural_against 29 = .ok (.ldc2_w 13, 3) := by decide +kernel
theorem d_Natural_against_32 : decode b_Natural_against 32 = .ok (.land, 1) := by decide +kernel
theorem d_Natural_against_33 : decode b_Natural_against 33 = .ok (.aload_n 1, 1) := by decide +kernel
theorem d_Natural_against_34 : decode b_Natural_against 34 = .ok (.getfield 9, 3) := by decide +kernel
theorem d_Natural_against_37 : decode b_Natural_against 37 = .ok (.iload_n 2, 1) := by decide +kernel
theorem d_Natural_against_38 : decode b_Natural_against 38 = .ok (.iaload, 1) := by decide +kernel
theorem d_Natural_against_39 : decode b_Natural_against 39 = .ok (.i2l, 1) := by decide +kernel
theorem d_Natural_against_40 : decode b_Natural_against 40 = .ok (.ldc2_w 13, 3) := by decide +kernel
theorem d_Natural_against_43 : decode b_Natural_against 43 = .ok (.land, 1) := by decide +kernel
theorem d_Natural_against_44 : decode b_Natural_against 44 = .ok (.lcmp, 1) := by decide +kernel
theorem d_Natural_against_45 : decode b_Natural_against 45 = .ok (.ifCond .ge 7, 3) := by decide +kernel
theorem d_Natural_against_48 : decode b_Natural_against 48 = .ok (.iconst (-1), 1) := by decide +kernel
theorem d_Natural_against_49 : decode b_Natural_against 49 = .ok (.goto 4, 3) := by decide +kernel
theorem d_Natural_against_52 : decode b_Natural_against 52 = .ok (.iconst 1, 1) := by decide +kernel
theorem d_Natural_against_53 : decode b_Natural_against 53 = .ok (.ireturn, 1) := by decide +kernel
theorem d_Natural_against_54 : decode b_Natural_against 54 = .ok (.iinc 2 (-1), 3) := by decide +kernel
theorem d_Natural_against_57 : decode b_Natural_against 57 = .ok (.goto (-54), 3) := by decide +kernel
theorem d_Natural_against_60 : decode b_Natural_against 60 = .ok (.iconst 0, 1) := by decide +kernel
theorem d_Natural_against_61 : decode b_Natural_against 61 = .ok (.ireturn, 1) := by decide +kernel
theorem d_Natural_bitLength_0 : decode b_Natural_bitLength 0 = .ok (.bipush 11, 2) := by decide +kernel
theorem d_Natural_bitLength_2 : decode b_Natural_bitLength 2 = .ok (.istore_n 1, 1) := by decide +kernel
theorem d_Natural_bitLength_3 : decode b_Natural_bitLength 3 = .ok (.iload_n 1, 1) := by decide +kernel
theorem d_Natural_bitLength_4 : decode b_Natural_bitLength 4 = .ok (.ifCond .lt 36, 3) := by decide +kernel
theorem d_Natural_bitLength_7 : decode b_Natural_bitLength 7 = .ok (.aload_n 0, 1) := by decide +kernel
theorem d_Natural_bitLength_8 : decode b_Natural_bitLength 8 = .ok (.getfield 9, 3) := by decide +kernel
theorem d_Natural_bitLength_11 : decode b_Natural_bitLength 11 = .ok (.iload_n 1, 1) := by decide +kernel
theorem d_Natural_bitLength_12 : decode b_Natural_bitLength 12 = .ok (.iaload, 1) := by decide +kernel
theorem d_Natural_bitLength_13 : decode b_Natural_bitLength 13 = .ok (.ifCond .eq 21, 3) := by decide +kernel
theorem d_Natural_bitLength_16 : decode b_Natural_bitLength 16 = .ok (.bipush 32, 2) := by decide +kernel
theorem d_Natural_bitLength_18 : decode b_Natural_bitLength 18 = .ok (.iload_n 1, 1) := by decide +kernel
theorem d_Natural_bitLength_19 : decode b_Natural_bitLength 19 = .ok (.imul, 1) := by decide +kernel
theorem d_Natural_bitLength_20 : decode b_Natural_bitLength 20 = .ok (.bipush 32, 2) := by decide +kernel
theorem d_Natural_bitLength_22 : decode b_Natural_bitLength 22 = .ok (.iadd, 1) := by decide +kernel
theorem d_Natural_bitLength_23 : decode b_Natural_bitLength 23 = .ok (.aload_n 0, 1) := by decide +kernel
theorem d_Natural_bitLength_24 : decode b_Natural_bitLength 24 = .ok (.getfield 9, 3) := by decide +kernel
theorem d_Natural_bitLength_27 : decode b_Natural_bitLength 27 = .ok (.iload_n 1, 1) := by decide +kernel
theorem d_Natural_bitLength_28 : decode b_Natural_bitLength 28 = .ok (.iaload, 1) := by decide +kernel
theorem d_Natural_bitLength_29 : decode b_Natural_bitLength 29 = .ok (.invokestatic 15, 3) := by decide +kernel
theorem d_Natural_bitLength_32 : decode b_Natural_bitLength 32 = .ok (.isub, 1) := by decide +kernel
theorem d_Natural_bitLength_33 : decode b_Natural_bitLength 33 = .ok (.ireturn, 1) := by decide +kernel
theorem d_Natural_bitLength_34 : decode b_Natural_bitLength 34 = .ok (.iinc 1 (-1), 3) := by decide +kernel
theorem d_Natural_bitLength_37 : decode b_Natural_bitLength 37 = .ok (.goto (-34), 3) := by decide +kernel
theorem d_Natural_bitLength_40 : decode b_Natural_bitLength 40 = .ok (.iconst 0, 1) := by decide +kernel
theorem d_Natural_bitLength_41 : decode b_Natural_bitLength 41 = .ok (.ireturn, 1) := by decide +kernel
theorem d_Natural_add_0 : decode b_Natural_add 0 = .ok (.lconst 0, 1) := by decide +kernel
theorem d_Natural_add_1 : decode b_Natural_add 1 = .ok (.lstore_n 2, 1) := by decide +kernel
theorem d_Natural_add_2 : decode b_Natural_add 2 = .ok (.iconst 0, 1) := by decide +kernel
theorem d_Natural_add_3 : decode b_Natural_add 3 = .ok (.istore 4, 2) := by decide +kernel
theorem d_Natural_add_5 : decode b_Natural_add 5 = .ok (.iload 4, 2) := by decide +kernel
theorem d_Natural_add_7 : decode b_Natural_add 7 = .ok (.bipush 12, 2) := by decide +kernel
theorem d_Natural_add_9 : decode b_Natural_add 9 = .ok (.if_icmp .ge 51, 3) := by decide +kernel
theorem d_Natural_add_12 : decode b_Natural_add 12 = .ok (.lload_n 2, 1) := by decide +kernel
theorem d_Natural_add_13 : decode b_Natural_add 13 = .ok (.aload_n 0, 1) := by decide +kernel
theorem d_Natural_add_14 : decode b_Natural_add 14 = .ok (.getfield 9, 3) := by decide +kernel
theorem d_Natural_add_17 : decode b_Natural_add 17 = .ok (.iload 4, 2) := by decide +kernel
theorem d_Natural_add_19 : decode b_Natural_add 19 = .ok (.iaload, 1) := by decide +kernel
theorem d_Natural_add_20 : decode b_Natural_add 20 = .ok (.i2l, 1) := by decide +kernel
theorem d_Natural_add_21 : decode b_Natural_add 21 = .ok (.ldc2_w 13, 3) := by decide +kernel
theorem d_Natural_add_24 : decode b_Natural_add 24 = .ok (.land, 1) := by decide +kernel
theorem d_Natural_add_25 : decode b_Natural_add 25 = .ok (.ladd, 1) := by decide +kernel
theorem d_Natural_add_26 : decode b_Natural_add 26 = .ok (.aload_n 1, 1) := by decide +kernel
theorem d_Natural_add_27 : decode b_Natural_add 27 = .ok (.getfield 9, 3) := by decide +kernel
theorem d_Natural_add_30 : decode b_Natural_add 30 = .ok (.iload 4, 2) := by decide +kernel
theorem d_Natural_add_32 : decode b_Natural_add 32 = .ok (.iaload, 1) := by decide +kernel
theorem d_Natural_add_33 : decode b_Natural_add 33 = .ok (.i2l, 1) := by decide +kernel
theorem d_Natural_add_34 : decode b_Natural_add 34 = .ok (.ldc2_w 13, 3) := by decide +kernel
theorem d_Natural_add_37 : decode b_Natural_add 37 = .ok (.land, 1) := by decide +kernel
theorem d_Natural_add_38 : decode b_Natural_add 38 = .ok (.ladd, 1) := by decide +kernel
theorem d_Natural_add_39 : decode b_Natural_add 39 = .ok (.lstore_n 2, 1) := by decide +kernel
theorem d_Natural_add_40 : decode b_Natural_add 40 = .ok (.aload_n 0, 1) := by decide +kernel
theorem d_Natural_add_41 : decode b_Natural_add 41 = .ok (.getfield 9, 3) := by decide +kernel
theorem d_Natural_add_44 : decode b_Natural_add 44 = .ok (.iload 4, 2) := by decide +kernel
theorem d_Natural_add_46 : decode b_Natural_add 46 = .ok (.lload_n 2, 1) := by decide +kernel
theorem d_Natural_add_47 : decode b_Natural_add 47 = .ok (.l2i, 1) := by decide +kernel
theorem d_Natural_add_48 : decode b_Natural_add 48 = .ok (.iastore, 1) := by decide +kernel
theorem d_Natural_add_49 : decode b_Natural_add 49 = .ok (.lload_n 2, 1) := by decide +kernel
theorem d_Natural_add_50 : decode b_Natural_add 50 = .ok (.bipush 32, 2) := by decide +kernel
theorem d_Natural_add_52 : decode b_Natural_add 52 = .ok (.lushr, 1) := by decide +kernel
theorem d_Natural_add_53 : decode b_Natural_add 53 = .ok (.lstore_n 2, 1) := by decide +kernel
theorem d_Natural_add_54 : decode b_Natural_add 54 = .ok (.iinc 4 1, 3) := by decide +kernel
theorem d_Natural_add_57 : decode b_Natural_add 57 = .ok (.goto (-52), 3) := by decide +kernel
theorem d_Natural_add_60 : decode b_Natural_add 60 = .ok (.return_, 1) := by decide +kernel
theorem d_Natural_subtract_0 : decode b_Natural_subtract 0 = .ok (.lconst 0, 1) := by decide +kernel
theorem d_Natural_subtract_1 : decode b_Natural_subtract 1 = .ok (.lstore_n 2, 1) := by decide +kernel
theorem d_Natural_subtract_2 : decode b_Natural_subtract 2 = .ok (.iconst 0, 1) := by decide +kernel
theorem d_Natural_subtract_3 : decode b_Natural_subtract 3 = .ok (.istore 4, 2) := by decide +kernel
theorem d_Natural_subtract_5 : decode b_Natural_subtract 5 = .ok (.iload 4, 2) := by decide +kernel
theorem d_Natural_subtract_7 : decode b_Natural_subtract 7 = .ok (.bipush 12, 2) := by decide +kernel
theorem d_Natural_subtract_9 : decode b_Natural_subtract 9 = .ok (.if_icmp .ge 51, 3) := by decide +kernel
theorem d_Natural_subtract_12 : decode b_Natural_subtract 12 = .ok (.lload_n 2, 1) := by decide +kernel
theorem d_Natural_subtract_13 : decode b_Natural_subtract 13 = .ok (.aload_n 0, 1) := by decide +kernel
theorem d_Natural_subtract_14 : decode b_Natural_subtract 14 = .ok (.getfield 9, 3) := by decide +kernel
theorem d_Natural_subtract_17 : decode b_Natural_subtract 17 = .ok (.iload 4, 2) := by decide +kernel
theorem d_Natural_subtract_19 : decode b_Natural_subtract 19 = .ok (.iaload, 1) := by decide +kernel
theorem d_Natural_subtract_20 : decode b_Natural_subtract 20 = .ok (.i2l, 1) := by decide +kernel
theorem d_Natural_subtract_21 : decode b_Natural_subtract 21 = .ok (.ldc2_w 13, 3) := by decide +kernel
theorem d_Natural_subtract_24 : decode b_Natural_subtract 24 = .ok (.land, 1) := by decide +kernel
theorem d_Natural_subtract_25 : decode b_Natural_subtract 25 = .ok (.ladd, 1) := by decide +kernel
theorem d_Natural_subtract_26 : decode b_Natural_subtract 26 = .ok (.aload_n 1, 1) := by decide +kernel
theorem d_Natural_subtract_27 : decode b_Natural_subtract 27 = .ok (.getfield 9, 3) := by decide +kernel
theorem d_Natural_subtract_30 : decode b_Natural_subtract 30 = .ok (.iload 4, 2) := by decide +kernel
theorem d_Natural_subtract_32 : decode b_Natural_subtract 32 = .ok (.iaload, 1) := by decide +kernel
theorem d_Natural_subtract_33 : decode b_Natural_subtract 33 = .ok (.i2l, 1) := by decide +kernel
theorem d_Natural_subtract_34 : decode b_Natural_subtract 34 = .ok (.ldc2_w 13, 3) := by decide +kernel
theorem d_Natural_subtract_37 : decode b_Natural_subtract 37 = .ok (.land, 1) := by decide +kernel
theorem d_Natural_subtract_38 : decode b_Natural_subtract 38 = .ok (.lsub, 1) := by decide +kernel
theorem d_Natural_subtract_39 : decode b_Natural_subtract 39 = .ok (.lstore_n 2, 1) := by decide +kernel
theorem d_Natural_subtract_40 : decode b_Natural_subtract 40 = .ok (.aload_n 0, 1) := by decide +kernel
theorem d_Natural_subtract_41 : decode b_Natural_subtract 41 = .ok (.getfield 9, 3) := by decide +kernel
theorem d_Natural_subtract_44 : decode b_Natural_subtract 44 = .ok (.iload 4, 2) := by decide +kernel
theorem d_Natural_subtract_46 : decode b_Natural_subtract 46 = .ok (.lload_n 2, 1) := by decide +kernel
theorem d_Natural_subtract_47 : decode b_Natural_subtract 47 = .ok (.l2i, 1) := by decide +kernel
theorem d_Natural_subtract_48 : decode b_Natural_subtract 48 = .ok (.iastore, 1) := by decide +kernel
theorem d_Natural_subtract_49 : decode b_Natural_subtract 49 = .ok (.lload_n 2, 1) := by decide +kernel
theorem d_Natural_subtract_50 : decode b_Natural_subtract 50 = .ok (.bipush 32, 2) := by decide +kernel
theorem d_Natural_subtract_52 : decode b_Natural_subtract 52 = .ok (.lshr, 1) := by decide +kernel
theorem d_Natural_subtract_53 : decode b_Natural_subtract 53 = .ok (.lstore_n 2, 1) := by decide +kernel
theorem d_Natural_subtract_54 : decode b_Natural_subtract 54 = .ok (.iinc 4 1, 3) := by decide +kernel
theorem d_Natural_subtract_57 : decode b_Natural_subtract 57 = .ok (.goto (-52), 3) := by decide +kernel
theorem d_Natural_subtract_60 : decode b_Natural_subtract 60 = .ok (.return_, 1) := by decide +kernel
theorem d_Natural_timesPlus_0 : decode b_Natural_timesPlus 0 = .ok (.iload_n 2, 1) := by decide +kernel
theorem d_Natural_timesPlus_1 : decode b_Natural_timesPlus 1 = .ok (.i2l, 1) := by decide +kernel
theorem d_Natural_timesPlus_2 : decode b_Natural_timesPlus 2 = .ok (.lstore_n 3, 1) := by decide +kernel
theorem d_Natural_timesPlus_3 : decode b_Natural_timesPlus 3 = .ok (.iconst 0, 1) := by decide +kernel
theorem d_Natural_timesPlus_4 : decode b_Natural_timesPlus 4 = .ok (.istore 5, 2) := by decide +kernel
theorem d_Natural_timesPlus_6 : decode b_Natural_timesPlus 6 = .ok (.iload 5, 2) := by decide +kernel
theorem d_Natural_timesPlus_8 : decode b_Natural_timesPlus 8 = .ok (.bipush 12, 2) := by decide +kernel
theorem d_Natural_timesPlus_10 : decode b_Natural_timesPlus 10 = .ok (.if_icmp .ge 41, 3) := by decide +kernel
theorem d_Natural_timesPlus_13 : decode b_Natural_timesPlus 13 = .ok (.lload_n 3, 1) := by decide +kernel
theorem d_Natural_timesPlus_14 : decode b_Natural_timesPlus 14 = .ok (.aload_n 0, 1) := by decide +kernel
theorem d_Natural_timesPlus_15 : decode b_Natural_timesPlus 15 = .ok (.getfield 9, 3) := by decide +kernel
theorem d_Natural_timesPlus_18 : decode b_Natural_timesPlus 18 = .ok (.iload 5, 2) := by decide +kernel
theorem d_Natural_timesPlus_20 : decode b_Natural_timesPlus 20 = .ok (.iaload, 1) := by decide +kernel
theorem d_Natural_timesPlus_21 : decode b_Natural_timesPlus 21 = .ok (.i2l, 1) := by decide +kernel
theorem d_Natural_timesPlus_22 : decode b_Natural_timesPlus 22 = .ok (.ldc2_w 13, 3) := by decide +kernel
theorem d_Natural_timesPlus_25 : decode b_Natural_timesPlus 25 = .ok (.land, 1) := by decide +kernel
theorem d_Natural_timesPlus_26 : decode b_Natural_timesPlus 26 = .ok (.iload_n 1, 1) := by decide +kernel
theorem d_Natural_timesPlus_27 : decode b_Natural_timesPlus 27 = .ok (.i2l, 1) := by decide +kernel
theorem d_Natural_timesPlus_28 : decode b_Natural_timesPlus 28 = .ok (.lmul, 1) := by decide +kernel
theorem d_Natural_timesPlus_29 : decode b_Natural_timesPlus 29 = .ok (.ladd, 1) := by decide +kernel
theorem d_Natural_timesPlus_30 : decode b_Natural_timesPlus 30 = .ok (.lstore_n 3, 1) := by decide +kernel
theorem d_Natural_timesPlus_31 : decode b_Natural_timesPlus 31 = .ok (.aload_n 0, 1) := by decide +kernel
theorem d_Natural_timesPlus_32 : decode b_Natural_timesPlus 32 = .ok (.getfield 9, 3) := by decide +kernel
theorem d_Natural_timesPlus_35 : decode b_Natural_timesPlus 35 = .ok (.iload 5, 2) := by decide +kernel
theorem d_Natural_timesPlus_37 : decode b_Natural_timesPlus 37 = .ok (.lload_n 3, 1) := by decide +kernel
theorem d_Natural_timesPlus_38 : decode b_Natural_timesPlus 38 = .ok (.l2i, 1) := by decide +kernel
theorem d_Natural_timesPlus_39 : decode b_Natural_timesPlus 39 = .ok (.iastore, 1) := by decide +kernel
theorem d_Natural_timesPlus_40 : decode b_Natural_timesPlus 40 = .ok (.lload_n 3, 1) := by decide +kernel
theorem d_Natural_timesPlus_41 : decode b_Natural_timesPlus 41 = .ok (.bipush 32, 2) := by decide +kernel
theorem d_Natural_timesPlus_43 : decode b_Natural_timesPlus 43 = .ok (.lushr, 1) := by decide +kernel
theorem d_Natural_timesPlus_44 : decode b_Natural_timesPlus 44 = .ok (.lstore_n 3, 1) := by decide +kernel
theorem d_Natural_timesPlus_45 : decode b_Natural_timesPlus 45 = .ok (.iinc 5 1, 3) := by decide +kernel
theorem d_Natural_timesPlus_48 : decode b_Natural_timesPlus 48 = .ok (.goto (-42), 3) := by decide +kernel
theorem d_Natural_timesPlus_51 : decode b_Natural_timesPlus 51 = .ok (.return_, 1) := by decide +kernel
theorem d_Natural_timesPowerOfTen_0 : decode b_Natural_timesPowerOfTen 0 = .ok (.aload_n 0, 1) := by decide +kernel
theorem d_Natural_timesPowerOfTen_1 : decode b_Natural_timesPowerOfTen 1 = .ok (.iload_n 1, 1) := by decide +kernel
theorem d_Natural_timesPowerOfTen_2 : decode b_Natural_timesPowerOfTen 2 = .ok (.invokevirtual 21, 3) := by decide +kernel
theorem d_Natural_timesPowerOfTen_5 : decode b_Natural_timesPowerOfTen 5 = .ok (.aload_n 0, 1) := by decide +kernel
theorem d_Natural_timesPowerOfTen_6 : decode b_Natural_timesPowerOfTen 6 = .ok (.iload_n 1, 1) := by decide +kernel
theorem d_Natural_timesPowerOfTen_7 : decode b_Natural_timesPowerOfTen 7 = .ok (.invokevirtual 25, 3) := by decide +kernel
theorem d_Natural_timesPowerOfTen_10 : decode b_Natural_timesPowerOfTen 10 = .ok (.return_, 1) := by decide +kernel
theorem d_Natural_timesPowerOfFive_0 : decode b_Natural_timesPowerOfFive 0 = .ok (.iload_n 1, 1) := by decide +kernel
theorem d_Natural_timesPowerOfFive_1 : decode b_Natural_timesPowerOfFive 1 = .ok (.istore_n 2, 1) := by decide +kernel
theorem d_Natural_timesPowerOfFive_2 : decode b_Natural_timesPowerOfFive 2 = .ok (.iload_n 2, 1) := by decide +kernel
theorem d_Natural_timesPowerOfFive_3 : decode b_Natural_timesPowerOfFive 3 = .ok (.bipush 13, 2) := by decide +kernel
theorem d_Natural_timesPowerOfFive_5 : decode b_Natural_timesPowerOfFive 5 = .ok (.if_icmp .lt 18, 3) := by decide +kernel
theorem d_Natural_timesPowerOfFive_8 : decode b_Natural_timesPowerOfFive 8 = .ok (.aload_n 0, 1) := by decide +kernel
theorem d_Natural_timesPowerOfFive_9 : decode b_Natural_timesPowerOfFive 9 = .ok (.ldc 28, 2) := by decide +kernel
theorem d_Natural_timesPowerOfFive_11 : decode b_Natural_timesPowerOfFive 11 = .ok (.iconst 0, 1) := by decide +kernel
theorem d_Natural_timesPowerOfFive_12 : decode b_Natural_timesPowerOfFive 12 = .ok (.invokevirtual 29, 3) := by decide +kernel
theorem d_Natural_timesPowerOfFive_15 : decode b_Natural_timesPowerOfFive 15 = .ok (.iload_n 2, 1) := by decide +kernel
theorem d_Natural_timesPowerOfFive_16 : decode b_Natural_timesPowerOfFive 16 = .ok (.bipush 13, 2) := by decide +kernel
theorem d_Natural_timesPowerOfFive_18 : decode b_Natural_timesPowerOfFive 18 = .ok (.isub, 1) := by decide +kernel
theorem d_Natural_timesPowerOfFive_19 : decode b_Natural_timesPowerOfFive 19 = .ok (.istore_n 2, 1) := by decide +kernel
theorem d_Natural_timesPowerOfFive_20 : decode b_Natural_timesPowerOfFive 20 = .ok (.goto (-18), 3) := by decide +kernel
theorem d_Natural_timesPowerOfFive_23 : decode b_Natural_timesPowerOfFive 23 = .ok (.iconst 1, 1) := by decide +kernel
theorem d_Natural_timesPowerOfFive_24 : decode b_Natural_timesPowerOfFive 24 = .ok (.istore_n 3, 1) := by decide +kernel
theorem d_Natural_timesPowerOfFive_25 : decode b_Natural_timesPowerOfFive 25 = .ok (.iload_n 2, 1) := by decide +kernel
theorem d_Natural_timesPowerOfFive_26 : decode b_Natural_timesPowerOfFive 26 = .ok (.ifCond .le 13, 3) := by decide +kernel
theorem d_Natural_timesPowerOfFive_29 : decode b_Natural_timesPowerOfFive 29 = .ok (.iload_n 3, 1) := by decide +kernel
theorem d_Natural_timesPowerOfFive_30 : decode b_Natural_timesPowerOfFive 30 = .ok (.iconst 5, 1) := by decide +kernel
theorem d_Natural_timesPowerOfFive_31 : decode b_Natural_timesPowerOfFive 31 = .ok (.imul, 1) := by decide +kernel
theorem d_Natural_timesPowerOfFive_32 : decode b_Natural_timesPowerOfFive 32 = .ok (.istore_n 3, 1) := by decide +kernel
theorem d_Natural_timesPowerOfFive_33 : decode b_Natural_timesPowerOfFive 33 = .ok (.iinc 2 (-1), 3) := by decide +kernel
theorem d_Natural_timesPowerOfFive_36 : decode b_Natural_timesPowerOfFive 36 = .ok (.goto (-11), 3) := by decide +kernel
theorem d_Natural_timesPowerOfFive_39 : decode b_Natural_timesPowerOfFive 39 = .ok (.aload_n 0, 1) := by decide +kernel
theorem d_Natural_timesPowerOfFive_40 : decode b_Natural_timesPowerOfFive 40 = .ok (.iload_n 3, 1) := by decide +kernel
theorem d_Natural_timesPowerOfFive_41 : decode b_Natural_timesPowerOfFive 41 = .ok (.iconst 0, 1) := by decide +kernel
theorem d_Natural_timesPowerOfFive_42 : decode b_Natural_timesPowerOfFive 42 = .ok (.invokevirtual 29, 3) := by decide +kernel
theorem d_Natural_timesPowerOfFive_45 : decode b_Natural_timesPowerOfFive 45 = .ok (.return_, 1) := by decide +kernel
theorem d_Natural_shiftLeft_0 : decode b_Natural_shiftLeft 0 = .ok (.iload_n 1, 1) := by decide +kernel
theorem d_Natural_shiftLeft_1 : decode b_Natural_shiftLeft 1 = .ok (.ifCond .gt 4, 3) := by decide +kernel
theorem d_Natural_shiftLeft_4 : decode b_Natural_shiftLeft 4 = .ok (.return_, 1) := by decide +kernel
theorem d_Natural_shiftLeft_5 : decode b_Natural_shiftLeft 5 = .ok (.iload_n 1, 1) := by decide +kernel
theorem d_Natural_shiftLeft_6 : decode b_Natural_shiftLeft 6 = .ok (.iconst 5, 1) := by decide +kernel
theorem d_Natural_shiftLeft_7 : decode b_Natural_shiftLeft 7 = .ok (.ishr, 1) := by decide +kernel
theorem d_Natural_shiftLeft_8 : decode b_Natural_shiftLeft 8 = .ok (.istore_n 2, 1) := by decide +kernel
theorem d_Natural_shiftLeft_9 : decode b_Natural_shiftLeft 9 = .ok (.iload_n 1, 1) := by decide +kernel
theorem d_Natural_shiftLeft_10 : decode b_Natural_shiftLeft 10 = .ok (.bipush 31, 2) := by decide +kernel
theorem d_Natural_shiftLeft_12 : decode b_Natural_shiftLeft 12 = .ok (.iand, 1) := by decide +kernel
theorem d_Natural_shiftLeft_13 : decode b_Natural_shiftLeft 13 = .ok (.istore_n 3, 1) := by decide +kernel
theorem d_Natural_shiftLeft_14 : decode b_Natural_shiftLeft 14 = .ok (.bipush 11, 2) := by decide +kernel
theorem d_Natural_shiftLeft_16 : decode b_Natural_shiftLeft 16 = .ok (.istore 4, 2) := by decide +kernel
theorem d_Natural_shiftLeft_18 : decode b_Natural_shiftLeft 18 = .ok (.iload 4, 2) := by decide +kernel
theorem d_Natural_shiftLeft_20 : decode b_Natural_shiftLeft 20 = .ok (.ifCond .lt 51, 3) := by decide +kernel
theorem d_Natural_shiftLeft_23 : decode b_Natural_shiftLeft 23 = .ok (.aload_n 0, 1) := by decide +kernel
theorem d_Natural_shiftLeft_24 : decode b_Natural_shiftLeft 24 = .ok (.iload 4, 2) := by decide +kernel
theorem d_Natural_shiftLeft_26 : decode b_Natural_shiftLeft 26 = .ok (.iload_n 2, 1) := by decide +kernel
theorem d_Natural_shiftLeft_27 : decode b_Natural_shiftLeft 27 = .ok (.isub, 1) := by decide +kernel
theorem d_Natural_shiftLeft_28 : decode b_Natural_shiftLeft 28 = .ok (.invokevirtual 33, 3) := by decide +kernel
theorem d_Natural_shiftLeft_31 : decode b_Natural_shiftLeft 31 = .ok (.iload_n 3, 1) := by decide +kernel
theorem d_Natural_shiftLeft_32 : decode b_Natural_shiftLeft 32 = .ok (.lshl, 1) := by decide +kernel
theorem d_Natural_shiftLeft_33 : decode b_Natural_shiftLeft 33 = .ok (.lstore 5, 2) := by decide +kernel
theorem d_Natural_shiftLeft_35 : decode b_Natural_shiftLeft 35 = .ok (.aload_n 0, 1) := by decide +kernel
theorem d_Natural_shiftLeft_36 : decode b_Natural_shiftLeft 36 = .ok (.iload 4, 2) := by decide +kernel
theorem d_Natural_shiftLeft_38 : decode b_Natural_shiftLeft 38 = .ok (.iload_n 2, 1) := by decide +kernel
theorem d_Natural_shiftLeft_39 : decode b_Natural_shiftLeft 39 = .ok (.isub, 1) := by decide +kernel
theorem d_Natural_shiftLeft_40 : decode b_Natural_shiftLeft 40 = .ok (.iconst 1, 1) := by decide +kernel
theorem d_Natural_shiftLeft_41 : decode b_Natural_shiftLeft 41 = .ok (.isub, 1) := by decide +kernel
theorem d_Natural_shiftLeft_42 : decode b_Natural_shiftLeft 42 = .ok (.invokevirtual 33, 3) := by decide +kernel
theorem d_Natural_shiftLeft_45 : decode b_Natural_shiftLeft 45 = .ok (.bipush 32, 2) := by decide +kernel
theorem d_Natural_shiftLeft_47 : decode b_Natural_shiftLeft 47 = .ok (.iload_n 3, 1) := by decide +kernel
theorem d_Natural_shiftLeft_48 : decode b_Natural_shiftLeft 48 = .ok (.isub, 1) := by decide +kernel
theorem d_Natural_shiftLeft_49 : decode b_Natural_shiftLeft 49 = .ok (.lushr, 1) := by decide +kernel
theorem d_Natural_shiftLeft_50 : decode b_Natural_shiftLeft 50 = .ok (.lstore 7, 2) := by decide +kernel
theorem d_Natural_shiftLeft_52 : decode b_Natural_shiftLeft 52 = .ok (.aload_n 0, 1) := by decide +kernel
theorem d_Natural_shiftLeft_53 : decode b_Natural_shiftLeft 53 = .ok (.getfield 9, 3) := by decide +kernel
theorem d_Natural_shiftLeft_56 : decode b_Natural_shiftLeft 56 = .ok (.iload 4, 2) := by decide +kernel
theorem d_Natural_shiftLeft_58 : decode b_Natural_shiftLeft 58 = .ok (.lload 5, 2) := by decide +kernel
theorem d_Natural_shiftLeft_60 : decode b_Natural_shiftLeft 60 = .ok (.lload 7, 2) := by decide +kernel
theorem d_Natural_shiftLeft_62 : decode b_Natural_shiftLeft 62 = .ok (.lor, 1) := by decide +kernel
theorem d_Natural_shiftLeft_63 : decode b_Natural_shiftLeft 63 = .ok (.l2i, 1) := by decide +kernel
theorem d_Natural_shiftLeft_64 : decode b_Natural_shiftLeft 64 = .ok (.iastore, 1) := by decide +kernel
theorem d_Natural_shiftLeft_65 : decode b_Natural_shiftLeft 65 = .ok (.iinc 4 (-1), 3) := by decide +kernel
theorem d_Natural_shiftLeft_68 : decode b_Natural_shiftLeft 68 = .ok (.goto (-50), 3) := by decide +kernel
theorem d_Natural_shiftLeft_71 : decode b_Natural_shiftLeft 71 = .ok (.return_, 1) := by decide +kernel
theorem d_Natural_divide_0 : decode b_Natural_divide 0 = .ok (.iload_n 1, 1) := by decide +kernel
theorem d_Natural_divide_1 : decode b_Natural_divide 1 = .ok (.ifCond .gt 5, 3) := by decide +kernel
theorem d_Natural_divide_4 : decode b_Natural_divide 4 = .ok (.iconst 0, 1) := by decide +kernel
theorem d_Natural_divide_5 : decode b_Natural_divide 5 = .ok (.ireturn, 1) := by decide +kernel
theorem d_Natural_divide_6 : decode b_Natural_divide 6 = .ok (.lconst 0, 1) := by decide +kernel
theorem d_Natural_divide_7 : decode b_Natural_divide 7 = .ok (.lstore_n 2, 1) := by decide +kernel
theorem d_Natural_divide_8 : decode b_Natural_divide 8 = .ok (.bipush 11, 2) := by decide +kernel
theorem d_Natural_divide_10 : decode b_Natural_divide 10 = .ok (.istore 4, 2) := by decide +kernel
theorem d_Natural_divide_12 : decode b_Natural_divide 12 = .ok (.iload 4, 2) := by decide +kernel
theorem d_Natural_divide_14 : decode b_Natural_divide 14 = .ok (.ifCond .lt 44, 3) := by decide +kernel
theorem d_Natural_divide_17 : decode b_Natural_divide 17 = .ok (.lload_n 2, 1) := by decide +kernel
theorem d_Natural_divide_18 : decode b_Natural_divide 18 = .ok (.bipush 32, 2) := by decide +kernel
theorem d_Natural_divide_20 : decode b_Natural_divide 20 = .ok (.lshl, 1) := by decide +kernel
theorem d_Natural_divide_21 : decode b_Natural_divide 21 = .ok (.aload_n 0, 1) := by decide +kernel
theorem d_Natural_divide_22 : decode b_Natural_divide 22 = .ok (.getfield 9, 3) := by decide +kernel
theorem d_Natural_divide_25 : decode b_Natural_divide 25 = .ok (.iload 4, 2) := by decide +kernel
theorem d_Natural_divide_27 : decode b_Natural_divide 27 = .ok (.iaload, 1) := by decide +kernel
theorem d_Natural_divide_28 : decode b_Natural_divide 28 = .ok (.i2l, 1) := by decide +kernel
theorem d_Natural_divide_29 : decode b_Natural_divide 29 = .ok (.ldc2_w 13, 3) := by decide +kernel
theorem d_Natural_divide_32 : decode b_Natural_divide 32 = .ok (.land, 1) := by decide +kernel
theorem d_Natural_divide_33 : decode b_Natural_divide 33 = .ok (.ladd, 1) := by decide +kernel
theorem d_Natural_divide_34 : decode b_Natural_divide 34 = .ok (.lstore_n 2, 1) := by decide +kernel
theorem d_Natural_divide_35 : decode b_Natural_divide 35 = .ok (.aload_n 0, 1) := by decide +kernel
theorem d_Natural_divide_36 : decode b_Natural_divide 36 = .ok (.getfield 9, 3) := by decide +kernel
theorem d_Natural_divide_39 : decode b_Natural_divide 39 = .ok (.iload 4, 2) := by decide +kernel
theorem d_Natural_divide_41 : decode b_Natural_divide 41 = .ok (.lload_n 2, 1) := by decide +kernel
theorem d_Natural_divide_42 : decode b_Natural_divide 42 = .ok (.iload_n 1, 1) := by decide +kernel
theorem d_Natural_divide_43 : decode b_Natural_divide 43 = .ok (.i2l, 1) := by decide +kernel
theorem d_Natural_divide_44 : decode b_Natural_divide 44 = .ok (.ldiv, 1) := by decide +kernel
theorem d_Natural_divide_45 : decode b_Natural_divide 45 = .ok (.l2i, 1) := by decide +kernel
theorem d_Natural_divide_46 : decode b_Natural_divide 46 = .ok (.iastore, 1) := by decide +kernel
theorem d_Natural_divide_47 : decode b_Natural_divide 47 = .ok (.lload_n 2, 1) := by decide +kernel
theorem d_Natural_divide_48 : decode b_Natural_divide 48 = .ok (.iload_n 1, 1) := by decide +kernel
theorem d_Natural_divide_49 : decode b_Natural_divide 49 = .ok (.i2l, 1) := by decide +kernel
theorem d_Natural_divide_50 : decode b_Natural_divide 50 = .ok (.lrem, 1) := by decide +kernel
theorem d_Natural_divide_51 : decode b_Natural_divide 51 = .ok (.lstore_n 2, 1) := by decide +kernel
theorem d_Natural_divide_52 : decode b_Natural_divide 52 = .ok (.iinc 4 (-1), 3) := by decide +kernel
theorem d_Natural_divide_55 : decode b_Natural_divide 55 = .ok (.goto (-43), 3) := by decide +kernel
theorem d_Natural_divide_58 : decode b_Natural_divide 58 = .ok (.lload_n 2, 1) := by decide +kernel
theorem d_Natural_divide_59 : decode b_Natural_divide 59 = .ok (.l2i, 1) := by decide +kernel
theorem d_Natural_divide_60 : decode b_Natural_divide 60 = .ok (.ireturn, 1) := by decide +kernel
theorem d_Natural_limbAt_0 : decode b_Natural_limbAt 0 = .ok (.iload_n 1, 1) := by decide +kernel
theorem d_Natural_limbAt_1 : decode b_Natural_limbAt 1 = .ok (.ifCond .lt 23, 3) := by decide +kernel
theorem d_Natural_limbAt_4 : decode b_Natural_limbAt 4 = .ok (.iload_n 1, 1) := by decide +kernel
theorem d_Natural_limbAt_5 : decode b_Natural_limbAt 5 = .ok (.bipush 12, 2) := by decide +kernel
theorem d_Natural_limbAt_7 : decode b_Natural_limbAt 7 = .ok (.if_icmp .ge 17, 3) := by decide +kernel
theorem d_Natural_limbAt_10 : decode b_Natural_limbAt 10 = .ok (.aload_n 0, 1) := by decide +kernel
theorem d_Natural_limbAt_11 : decode b_Natural_limbAt 11 = .ok (.getfield 9, 3) := by decide +kernel
theorem d_Natural_limbAt_14 : decode b_Natural_limbAt 14 = .ok (.iload_n 1, 1) := by decide +kernel
theorem d_Natural_limbAt_15 : decode b_Natural_limbAt 15 = .ok (.iaload, 1) := by decide +kernel
theorem d_Natural_limbAt_16 : decode b_Natural_limbAt 16 = .ok (.i2l, 1) := by decide +kernel
theorem d_Natural_limbAt_17 : decode b_Natural_limbAt 17 = .ok (.ldc2_w 13, 3) := by decide +kernel
theorem d_Natural_limbAt_20 : decode b_Natural_limbAt 20 = .ok (.land, 1) := by decide +kernel
theorem d_Natural_limbAt_21 : decode b_Natural_limbAt 21 = .ok (.goto 4, 3) := by decide +kernel
theorem d_Natural_limbAt_24 : decode b_Natural_limbAt 24 = .ok (.lconst 0, 1) := by decide +kernel
theorem d_Natural_limbAt_25 : decode b_Natural_limbAt 25 = .ok (.lreturn, 1) := by decide +kernel
theorem d_Layout_init_0 : decode b_Layout_init 0 = .ok (.aload_n 0, 1) := by decide +kernel
theorem d_Layout_init_1 : decode b_Layout_init 1 = .ok (.invokespecial 1, 3) := by decide +kernel
theorem d_Layout_init_4 : decode b_Layout_init 4 = .ok (.aload_n 0, 1) := by decide +kernel
theorem d_Layout_init_5 : decode b_Layout_init 5 = .ok (.bipush 8, 2) := by decide +kernel
theorem d_Layout_init_7 : decode b_Layout_init 7 = .ok (.putfield 7, 3) := by decide +kernel
theorem d_Layout_init_10 : decode b_Layout_init 10 = .ok (.aload_n 0, 1) := by decide +kernel
theorem d_Layout_init_11 : decode b_Layout_init 11 = .ok (.bipush 23, 2) := by decide +kernel
theorem d_Layout_init_13 : decode b_Layout_init 13 = .ok (.putfield 13, 3) := by decide +kernel
theorem d_Layout_init_16 : decode b_Layout_init 16 = .ok (.return_, 1) := by decide +kernel
theorem d_Layout_bias_0 : decode b_Layout_bias 0 = .ok (.iconst 1, 1) := by decide +kernel
theorem d_Layout_bias_1 : decode b_Layout_bias 1 = .ok (.aload_n 0, 1) := by decide +kernel
theorem d_Layout_bias_2 : decode b_Layout_bias 2 = .ok (.getfield 7, 3) := by decide +kernel
theorem d_Layout_bias_5 : decode b_Layout_bias 5 = .ok (.iconst 1, 1) := by decide +kernel
theorem d_Layout_bias_6 : decode b_Layout_bias 6 = .ok (.isub, 1) := by decide +kernel
theorem d_Layout_bias_7 : decode b_Layout_bias 7 = .ok (.ishl, 1) := by decide +kernel
theorem d_Layout_bias_8 : decode b_Layout_bias 8 = .ok (.iconst 1, 1) := by decide +kernel
theorem d_Layout_bias_9 : decode b_Layout_bias 9 = .ok (.isub, 1) := by decide +kernel
theorem d_Layout_bias_10 : decode b_Layout_bias 10 = .ok (.ireturn, 1) := by decide +kernel
theorem d_Layout_lowestPower_0 : decode b_Layout_lowestPower 0 = .ok (.iconst 1, 1) := by decide +kernel
theorem d_Layout_lowestPower_1 : decode b_Layout_lowestPower 1 = .ok (.aload_n 0, 1) := by decide +kernel
theorem d_Layout_lowestPower_2 : decode b_Layout_lowestPower 2 = .ok (.invokevirtual 16, 3) := by decide +kernel
theorem d_Layout_lowestPower_5 : decode b_Layout_lowestPower 5 = .ok (.isub, 1) := by decide +kernel
theorem d_Layout_lowestPower_6 : decode b_Layout_lowestPower 6 = .ok (.aload_n 0, 1) := by decide +kernel
theorem d_Layout_lowestPower_7 : decode b_Layout_lowestPower 7 = .ok (.getfield 13, 3) := by decide +kernel
theorem d_Layout_lowestPower_10 : decode b_Layout_lowestPower 10 = .ok (.isub, 1) := by decide +kernel
theorem d_Layout_lowestPower_11 : decode b_Layout_lowestPower 11 = .ok (.ireturn, 1) := by decide +kernel
theorem d_Layout_signBit_0 : decode b_Layout_signBit 0 = .ok (.lconst 1, 1) := by decide +kernel
theorem d_Layout_signBit_1 : decode b_Layout_signBit 1 = .ok (.aload_n 0, 1) := by decide +kernel
theorem d_Layout_signBit_2 : decode b_Layout_signBit 2 = .ok (.getfield 7, 3) := by decide +kernel
theorem d_Layout_signBit_5 : decode b_Layout_signBit 5 = .ok (.aload_n 0, 1) := by decide +kernel
theorem d_Layout_signBit_6 : decode b_Layout_signBit 6 = .ok (.getfield 13, 3) := by decide +kernel
theorem d_Layout_signBit_9 : decode b_Layout_signBit 9 = .ok (.iadd, 1) := by decide +kernel
theorem d_Layout_signBit_10 : decode b_Layout_signBit 10 = .ok (.lshl, 1) := by decide +kernel
theorem d_Layout_signBit_11 : decode b_Layout_signBit 11 = .ok (.lreturn, 1) := by decide +kernel
theorem d_Layout_infinity_0 : decode b_Layout_infinity 0 = .ok (.lconst 1, 1) := by decide +kernel
theorem d_Layout_infinity_1 : decode b_Layout_infinity 1 = .ok (.aload_n 0, 1) := by decide +kernel
theorem d_Layout_infinity_2 : decode b_Layout_infinity 2 = .ok (.getfield 7, 3) := by decide +kernel
theorem d_Layout_infinity_5 : decode b_Layout_infinity 5 = .ok (.lshl, 1) := by decide +kernel
theorem d_Layout_infinity_6 : decode b_Layout_infinity 6 = .ok (.lconst 1, 1) := by decide +kernel
theorem d_Layout_infinity_7 : decode b_Layout_infinity 7 = .ok (.lsub, 1) := by decide +kernel
theorem d_Layout_infinity_8 : decode b_Layout_infinity 8 = .ok (.aload_n 0, 1) := by decide +kernel
theorem d_Layout_infinity_9 : decode b_Layout_infinity 9 = .ok (.getfield 13, 3) := by decide +kernel
theorem d_Layout_infinity_12 : decode b_Layout_infinity 12 = .ok (.lshl, 1) := by decide +kernel
theorem d_Layout_infinity_13 : decode b_Layout_infinity 13 = .ok (.lreturn, 1) := by decide +kernel
theorem d_Layout_holds_0 : decode b_Layout_holds 0 = .ok (.lload_n 1, 1) := by decide +kernel
theorem d_Layout_holds_1 : decode b_Layout_holds 1 = .ok (.lconst 0, 1) := by decide +kernel
theorem d_Layout_holds_2 : decode b_Layout_holds 2 = .ok (.lcmp, 1) := by decide +kernel
theorem d_Layout_holds_3 : decode b_Layout_holds 3 = .ok (.ifCond .lt 20, 3) := by decide +kernel
theorem d_Layout_holds_6 : decode b_Layout_holds 6 = .ok (.lload_n 1, 1) := by decide +kernel
theorem d_Layout_holds_7 : decode b_Layout_holds 7 = .ok (.ldc2_w 20, 3) := by decide +kernel
theorem d_Layout_holds_10 : decode b_Layout_holds 10 = .ok (.aload_n 0, 1) := by decide +kernel
theorem d_Layout_holds_11 : decode b_Layout_holds 11 = .ok (.invokevirtual 22, 3) := by decide +kernel
theorem d_Layout_holds_14 : decode b_Layout_holds 14 = .ok (.lmul, 1) := by decide +kernel
theorem d_Layout_holds_15 : decode b_Layout_holds 15 = .ok (.lcmp, 1) := by decide +kernel
theorem d_Layout_holds_16 : decode b_Layout_holds 16 = .ok (.ifCond .ge 7, 3) := by decide +kernel
theorem d_Layout_holds_19 : decode b_Layout_holds 19 = .ok (.iconst 1, 1) := by decide +kernel
theorem d_Layout_holds_20 : decode b_Layout_holds 20 = .ok (.goto 4, 3) := by decide +kernel
theorem d_Layout_holds_23 : decode b_Layout_holds 23 = .ok (.iconst 0, 1) := by decide +kernel
theorem d_Layout_holds_24 : decode b_Layout_holds 24 = .ok (.ireturn, 1) := by decide +kernel
theorem d_Layout_isNegative_0 : decode b_Layout_isNegative 0 = .ok (.lload_n 1, 1) := by decide +kernel
theorem d_Layout_isNegative_1 : decode b_Layout_isNegative 1 = .ok (.aload_n 0, 1) := by decide +kernel
theorem d_Layout_isNegative_2 : decode b_Layout_isNegative 2 = .ok (.invokevirtual 22, 3) := by decide +kernel
theorem d_Layout_isNegative_5 : decode b_Layout_isNegative 5 = .ok (.lcmp, 1) := by decide +kernel
theorem d_Layout_isNegative_6 : decode b_Layout_isNegative 6 = .ok (.ifCond .lt 7, 3) := by decide +kernel
theorem d_Layout_isNegative_9 : decode b_Layout_isNegative 9 = .ok (.iconst 1, 1) := by decide +kernel
theorem d_Layout_isNegative_10 : decode b_Layout_isNegative 10 = .ok (.goto 4, 3) := by decide +kernel
theorem d_Layout_isNegative_13 : decode b_Layout_isNegative 13 = .ok (.iconst 0, 1) := by decide +kernel
theorem d_Layout_isNegative_14 : decode b_Layout_isNegative 14 = .ok (.ireturn, 1) := by decide +kernel
theorem d_Layout_sizeOf_0 : decode b_Layout_sizeOf 0 = .ok (.lload_n 1, 1) := by decide +kernel
theorem d_Layout_sizeOf_1 : decode b_Layout_sizeOf 1 = .ok (.aload_n 0, 1) := by decide +kernel
theorem d_Layout_sizeOf_2 : decode b_Layout_sizeOf 2 = .ok (.invokevirtual 22, 3) := by decide +kernel
theorem d_Layout_sizeOf_5 : decode b_Layout_sizeOf 5 = .ok (.lconst 1, 1) := by decide +kernel
theorem d_Layout_sizeOf_6 : decode b_Layout_sizeOf 6 = .ok (.lsub, 1) := by decide +kernel
theorem d_Layout_sizeOf_7 : decode b_Layout_sizeOf 7 = .ok (.land, 1) := by decide +kernel
theorem d_Layout_sizeOf_8 : decode b_Layout_sizeOf 8 = .ok (.lreturn, 1) := by decide +kernel
theorem d_Layout_fractionOf_0 : decode b_Layout_fractionOf 0 = .ok (.lload_n 1, 1) := by decide +kernel
theorem d_Layout_fractionOf_1 : decode b_Layout_fractionOf 1 = .ok (.lconst 1, 1) := by decide +kernel
theorem d_Layout_fractionOf_2 : decode b_Layout_fractionOf 2 = .ok (.aload_n 0, 1) := by decide +kernel
theorem d_Layout_fractionOf_3 : decode b_Layout_fractionOf 3 = .ok (.getfield 13, 3) := by decide +kernel
theorem d_Layout_fractionOf_6 : decode b_Layout_fractionOf 6 = .ok (.lshl, 1) := by decide +kernel
theorem d_Layout_fractionOf_7 : decode b_Layout_fractionOf 7 = .ok (.lconst 1, 1) := by decide +kernel
theorem d_Layout_fractionOf_8 : decode b_Layout_fractionOf 8 = .ok (.lsub, 1) := by decide +kernel
theorem d_Layout_fractionOf_9 : decode b_Layout_fractionOf 9 = .ok (.land, 1) := by decide +kernel
theorem d_Layout_fractionOf_10 : decode b_Layout_fractionOf 10 = .ok (.lreturn, 1) := by decide +kernel
theorem d_Layout_exponentOf_0 : decode b_Layout_exponentOf 0 = .ok (.lload_n 1, 1) := by decide +kernel
theorem d_Layout_exponentOf_1 : decode b_Layout_exponentOf 1 = .ok (.aload_n 0, 1) := by decide +kernel
theorem d_Layout_exponentOf_2 : decode b_Layout_exponentOf 2 = .ok (.getfield 13, 3) := by decide +kernel
theorem d_Layout_exponentOf_5 : decode b_Layout_exponentOf 5 = .ok (.lshr, 1) := by decide +kernel
theorem d_Layout_exponentOf_6 : decode b_Layout_exponentOf 6 = .ok (.l2i, 1) := by decide +kernel
theorem d_Layout_exponentOf_7 : decode b_Layout_exponentOf 7 = .ok (.ireturn, 1) := by decide +kernel
theorem d_Layout_significandOf_0 : decode b_Layout_significandOf 0 = .ok (.aload_n 0, 1) := by decide +kernel
theorem d_Layout_significandOf_1 : decode b_Layout_significandOf 1 = .ok (.lload_n 1, 1) := by decide +kernel
theorem d_Layout_significandOf_2 : decode b_Layout_significandOf 2 = .ok (.invokevirtual 26, 3) := by decide +kernel
theorem d_Layout_significandOf_5 : decode b_Layout_significandOf 5 = .ok (.ifCond .ne 7, 3) := by decide +kernel
theorem d_Layout_significandOf_8 : decode b_Layout_significandOf 8 = .ok (.lload_n 1, 1) := by decide +kernel
theorem d_Layout_significandOf_9 : decode b_Layout_significandOf 9 = .ok (.goto 15, 3) := by decide +kernel
theorem d_Layout_significandOf_12 : decode b_Layout_significandOf 12 = .ok (.lconst 1, 1) := by decide +kernel
theorem d_Layout_significandOf_13 : decode b_Layout_significandOf 13 = .ok (.aload_n 0, 1) := by decide +kernel
theorem d_Layout_significandOf_14 : decode b_Layout_significandOf 14 = .ok (.getfield 13, 3) := by decide +kernel
theorem d_Layout_significandOf_17 : decode b_Layout_significandOf 17 = .ok (.lshl, 1) := by decide +kernel
theorem d_Layout_significandOf_18 : decode b_Layout_significandOf 18 = .ok (.aload_n 0, 1) := by decide +kernel
theorem d_Layout_significandOf_19 : decode b_Layout_significandOf 19 = .ok (.lload_n 1, 1) := by decide +kernel
theorem d_Layout_significandOf_20 : decode b_Layout_significandOf 20 = .ok (.invokevirtual 30, 3) := by decide +kernel
theorem d_Layout_significandOf_23 : decode b_Layout_significandOf 23 = .ok (.ladd, 1) := by decide +kernel
theorem d_Layout_significandOf_24 : decode b_Layout_significandOf 24 = .ok (.lreturn, 1) := by decide +kernel
theorem d_Layout_powerOf_0 : decode b_Layout_powerOf 0 = .ok (.aload_n 0, 1) := by decide +kernel
theorem d_Layout_powerOf_1 : decode b_Layout_powerOf 1 = .ok (.invokevirtual 34, 3) := by decide +kernel
theorem d_Layout_powerOf_4 : decode b_Layout_powerOf 4 = .ok (.aload_n 0, 1) := by decide +kernel
theorem d_Layout_powerOf_5 : decode b_Layout_powerOf 5 = .ok (.lload_n 1, 1) := by decide +kernel
theorem d_Layout_powerOf_6 : decode b_Layout_powerOf 6 = .ok (.invokevirtual 26, 3) := by decide +kernel
theorem d_Layout_powerOf_9 : decode b_Layout_powerOf 9 = .ok (.iconst 1, 1) := by decide +kernel
theorem d_Layout_powerOf_10 : decode b_Layout_powerOf 10 = .ok (.isub, 1) := by decide +kernel
theorem d_Layout_powerOf_11 : decode b_Layout_powerOf 11 = .ok (.iconst 0, 1) := by decide +kernel
theorem d_Layout_powerOf_12 : decode b_Layout_powerOf 12 = .ok (.invokestatic 37, 3) := by decide +kernel
theorem d_Layout_powerOf_15 : decode b_Layout_powerOf 15 = .ok (.iadd, 1) := by decide +kernel
theorem d_Layout_powerOf_16 : decode b_Layout_powerOf 16 = .ok (.ireturn, 1) := by decide +kernel
theorem d_Tape_init_0 : decode b_Tape_init 0 = .ok (.aload_n 0, 1) := by decide +kernel
theorem d_Tape_init_1 : decode b_Tape_init 1 = .ok (.invokespecial 1, 3) := by decide +kernel
theorem d_Tape_init_4 : decode b_Tape_init 4 = .ok (.aload_n 0, 1) := by decide +kernel
theorem d_Tape_init_5 : decode b_Tape_init 5 = .ok (.bipush 60, 2) := by decide +kernel
theorem d_Tape_init_7 : decode b_Tape_init 7 = .ok (.newarray .byte, 2) := by decide +kernel
theorem d_Tape_init_9 : decode b_Tape_init 9 = .ok (.putfield 9, 3) := by decide +kernel
theorem d_Tape_init_12 : decode b_Tape_init 12 = .ok (.aload_n 0, 1) := by decide +kernel
theorem d_Tape_init_13 : decode b_Tape_init 13 = .ok (.iconst 0, 1) := by decide +kernel
theorem d_Tape_init_14 : decode b_Tape_init 14 = .ok (.putfield 13, 3) := by decide +kernel
theorem d_Tape_init_17 : decode b_Tape_init 17 = .ok (.return_, 1) := by decide +kernel
theorem d_Tape_put_0 : decode b_Tape_put 0 = .ok (.iload_n 3, 1) := by decide +kernel
theorem d_Tape_put_1 : decode b_Tape_put 1 = .ok (.iconst 1, 1) := by decide +kernel
theorem d_Tape_put_2 : decode b_Tape_put 2 = .ok (.if_icmp .lt 20, 3) := by decide +kernel
theorem d_Tape_put_5 : decode b_Tape_put 5 = .ok (.iload_n 3, 1) := by decide +kernel
theorem d_Tape_put_6 : decode b_Tape_put 6 = .ok (.bipush 8, 2) := by decide +kernel
theorem d_Tape_put_8 : decode b_Tape_put 8 = .ok (.if_icmp .gt 14, 3) := by decide +kernel
theorem d_Tape_put_11 : decode b_Tape_put 11 = .ok (.aload_n 0, 1) := by decide +kernel
theorem d_Tape_put_12 : decode b_Tape_put 12 = .ok (.getfield 13, 3) := by decide +kernel
theorem d_Tape_put_15 : decode b_Tape_put 15 = .ok (.iload_n 3, 1) := by decide +kernel
theorem d_Tape_put_16 : decode b_Tape_put 16 = .ok (.iadd, 1) := by decide +kernel
theorem d_Tape_put_17 : decode b_Tape_put 17 = .ok (.bipush 60, 2) := by decide +kernel
theorem d_Tape_put_19 : decode b_Tape_put 19 = .ok (.if_icmp .le 5, 3) := by decide +kernel
theorem d_Tape_put_22 : decode b_Tape_put 22 = .ok (.iconst 0, 1) := by decide +kernel
theorem d_Tape_put_23 : decode b_Tape_put 23 = .ok (.ireturn, 1) := by decide +kernel
theorem d_Tape_put_24 : decode b_Tape_put 24 = .ok (.iconst 0, 1) := by decide +kernel
theorem d_Tape_put_25 : decode b_Tape_put 25 = .ok (.istore 4, 2) := by decide +kernel
theorem d_Tape_put_27 : decode b_Tape_put 27 = .ok (.iload 4, 2) := by decide +kernel
theorem d_Tape_put_29 : decode b_Tape_put 29 = .ok (.iload_n 3, 1) := by decide +kernel
theorem d_Tape_put_30 : decode b_Tape_put 30 = .ok (.if_icmp .ge 33, 3) := by decide +kernel
theorem d_Tape_put_33 : decode b_Tape_put 33 = .ok (.lload_n 1, 1) := by decide +kernel
theorem d_Tape_put_34 : decode b_Tape_put 34 = .ok (.iload 4, 2) := by decide +kernel
theorem d_Tape_put_36 : decode b_Tape_put 36 = .ok (.invokestatic 17, 3) := by decide +kernel
theorem d_Tape_put_39 : decode b_Tape_put 39 = .ok (.istore 5, 2) := by decide +kernel
theorem d_Tape_put_41 : decode b_Tape_put 41 = .ok (.iload 5, 2) := by decide +kernel
theorem d_Tape_put_43 : decode b_Tape_put 43 = .ok (.bipush 33, 2) := by decide +kernel
theorem d_Tape_put_45 : decode b_Tape_put 45 = .ok (.if_icmp .lt 10, 3) := by decide +kernel
theorem d_Tape_put_48 : decode b_Tape_put 48 = .ok (.iload 5, 2) := by decide +kernel
theorem d_Tape_put_50 : decode b_Tape_put 50 = .ok (.bipush 126, 2) := by decide +kernel
theorem d_Tape_put_52 : decode b_Tape_put 52 = .ok (.if_icmp .le 5, 3) := by decide +kernel
theorem d_Tape_put_55 : decode b_Tape_put 55 = .ok (.iconst 0, 1) := by decide +kernel
theorem d_Tape_put_56 : decode b_Tape_put 56 = .ok (.ireturn, 1) := by decide +kernel
theorem d_Tape_put_57 : decode b_Tape_put 57 = .ok (.iinc 4 1, 3) := by decide +kernel
theorem d_Tape_put_60 : decode b_Tape_put 60 = .ok (.goto (-33), 3) := by decide +kernel
theorem d_Tape_put_63 : decode b_Tape_put 63 = .ok (.iload_n 3, 1) := by decide +kernel
theorem d_Tape_put_64 : decode b_Tape_put 64 = .ok (.iconst 1, 1) := by decide +kernel
theorem d_Tape_put_65 : decode b_Tape_put 65 = .ok (.isub, 1) := by decide +kernel
theorem d_Tape_put_66 : decode b_Tape_put 66 = .ok (.istore 4, 2) := by decide +kernel
theorem d_Tape_put_68 : decode b_Tape_put 68 = .ok (.iload 4, 2) := by decide +kernel
theorem d_Tape_put_70 : decode b_Tape_put 70 = .ok (.ifCond .lt 51, 3) := by decide +kernel
theorem d_Tape_put_73 : decode b_Tape_put 73 = .ok (.aload_n 0, 1) := by decide +kernel
theorem d_Tape_put_74 : decode b_Tape_put 74 = .ok (.getfield 13, 3) := by decide +kernel
theorem d_Tape_put_77 : decode b_Tape_put 77 = .ok (.ifCond .lt 38, 3) := by decide +kernel
theorem d_Tape_put_80 : decode b_Tape_put 80 = .ok (.aload_n 0, 1) := by decide +kernel
theorem d_Tape_put_81 : decode b_Tape_put 81 = .ok (.getfield 13, 3) := by decide +kernel
theorem d_Tape_put_84 : decode b_Tape_put 84 = .ok (.bipush 60, 2) := by decide +kernel
theorem d_Tape_put_86 : decode b_Tape_put 86 = .ok (.if_icmp .ge 29, 3) := by decide +kernel
theorem d_Tape_put_89 : decode b_Tape_put 89 = .ok (.aload_n 0, 1) := by decide +kernel
theorem d_Tape_put_90 : decode b_Tape_put 90 = .ok (.getfield 9, 3) := by decide +kernel
theorem d_Tape_put_93 : decode b_Tape_put 93 = .ok (.aload_n 0, 1) := by decide +kernel
theorem d_Tape_put_94 : decode b_Tape_put 94 = .ok (.getfield 13, 3) := by decide +kernel
theorem d_Tape_put_97 : decode b_Tape_put 97 = .ok (.lload_n 1, 1) := by decide +kernel
theorem d_Tape_put_98 : decode b_Tape_put 98 = .ok (.iload 4, 2) := by decide +kernel
theorem d_Tape_put_100 : decode b_Tape_put 100 = .ok (.invokestatic 17, 3) := by decide +kernel
theorem d_Tape_put_103 : decode b_Tape_put 103 = .ok (.i2b, 1) := by decide +kernel
theorem d_Tape_put_104 : decode b_Tape_put 104 = .ok (.bastore, 1) := by decide +kernel
theorem d_Tape_put_105 : decode b_Tape_put 105 = .ok (.aload_n 0, 1) := by decide +kernel
theorem d_Tape_put_106 : decode b_Tape_put 106 = .ok (.dup, 1) := by decide +kernel
theorem d_Tape_put_107 : decode b_Tape_put 107 = .ok (.getfield 13, 3) := by decide +kernel
theorem d_Tape_put_110 : decode b_Tape_put 110 = .ok (.iconst 1, 1) := by decide +kernel
theorem d_Tape_put_111 : decode b_Tape_put 111 = .ok (.iadd, 1) := by decide +kernel
theorem d_Tape_put_112 : decode b_Tape_put 112 = .ok (.putfield 13, 3) := by decide +kernel
theorem d_Tape_put_115 : decode b_Tape_put 115 = .ok (.iinc 4 (-1), 3) := by decide +kernel
theorem d_Tape_put_118 : decode b_Tape_put 118 = .ok (.goto (-50), 3) := by decide +kernel
theorem d_Tape_put_121 : decode b_Tape_put 121 = .ok (.iconst 1, 1) := by decide +kernel
theorem d_Tape_put_122 : decode b_Tape_put 122 = .ok (.ireturn, 1) := by decide +kernel
theorem d_Tape_wipe_0 : decode b_Tape_wipe 0 = .ok (.aload_n 0, 1) := by decide +kernel
theorem d_Tape_wipe_1 : decode b_Tape_wipe 1 = .ok (.iconst 0, 1) := by decide +kernel
theorem d_Tape_wipe_2 : decode b_Tape_wipe 2 = .ok (.putfield 13, 3) := by decide +kernel
theorem d_Tape_wipe_5 : decode b_Tape_wipe 5 = .ok (.return_, 1) := by decide +kernel
theorem d_Tape_at_0 : decode b_Tape_at 0 = .ok (.iload_n 1, 1) := by decide +kernel
theorem d_Tape_at_1 : decode b_Tape_at 1 = .ok (.ifCond .lt 26, 3) := by decide +kernel
theorem d_Tape_at_4 : decode b_Tape_at 4 = .ok (.iload_n 1, 1) := by decide +kernel
theorem d_Tape_at_5 : decode b_Tape_at 5 = .ok (.aload_n 0, 1) := by decide +kernel
theorem d_Tape_at_6 : decode b_Tape_at 6 = .ok (.getfield 13, 3) := by decide +kernel
theorem d_Tape_at_9 : decode b_Tape_at 9 = .ok (.if_icmp .ge 18, 3) := by decide +kernel
theorem d_Tape_at_12 : decode b_Tape_at 12 = .ok (.iload_n 1, 1) := by decide +kernel
theorem d_Tape_at_13 : decode b_Tape_at 13 = .ok (.bipush 60, 2) := by decide +kernel
theorem d_Tape_at_15 : decode b_Tape_at 15 = .ok (.if_icmp .ge 12, 3) := by decide +kernel
theorem d_Tape_at_18 : decode b_Tape_at 18 = .ok (.aload_n 0, 1) := by decide +kernel
theorem d_Tape_at_19 : decode b_Tape_at 19 = .ok (.getfield 9, 3) := by decide +kernel
theorem d_Tape_at_22 : decode b_Tape_at 22 = .ok (.iload_n 1, 1) := by decide +kernel
theorem d_Tape_at_23 : decode b_Tape_at 23 = .ok (.baload, 1) := by decide +kernel
theorem d_Tape_at_24 : decode b_Tape_at 24 = .ok (.goto 4, 3) := by decide +kernel
theorem d_Tape_at_27 : decode b_Tape_at 27 = .ok (.iconst (-1), 1) := by decide +kernel
theorem d_Tape_at_28 : decode b_Tape_at 28 = .ok (.ireturn, 1) := by decide +kernel
theorem d_Tape_byteOf_0 : decode b_Tape_byteOf 0 = .ok (.lload_n 0, 1) := by decide +kernel
theorem d_Tape_byteOf_1 : decode b_Tape_byteOf 1 = .ok (.bipush 8, 2) := by decide +kernel
theorem d_Tape_byteOf_3 : decode b_Tape_byteOf 3 = .ok (.iload_n 2, 1) := by decide +kernel
theorem d_Tape_byteOf_4 : decode b_Tape_byteOf 4 = .ok (.imul, 1) := by decide +kernel
theorem d_Tape_byteOf_5 : decode b_Tape_byteOf 5 = .ok (.lushr, 1) := by decide +kernel
theorem d_Tape_byteOf_6 : decode b_Tape_byteOf 6 = .ok (.l2i, 1) := by decide +kernel
theorem d_Tape_byteOf_7 : decode b_Tape_byteOf 7 = .ok (.sipush 255, 3) := by decide +kernel
theorem d_Tape_byteOf_10 : decode b_Tape_byteOf 10 = .ok (.iand, 1) := by decide +kernel
theorem d_Tape_byteOf_11 : decode b_Tape_byteOf 11 = .ok (.ireturn, 1) := by decide +kernel
theorem d_Decimal_init_0 : decode b_Decimal_init 0 = .ok (.aload_n 0, 1) := by decide +kernel
theorem d_Decimal_init_1 : decode b_Decimal_init 1 = .ok (.invokespecial 1, 3) := by decide +kernel
theorem d_Decimal_init_4 : decode b_Decimal_init 4 = .ok (.aload_n 0, 1) := by decide +kernel
theorem d_Decimal_init_5 : decode b_Decimal_init 5 = .ok (.new 7, 3) := by decide +kernel
theorem d_Decimal_init_8 : decode b_Decimal_init 8 = .ok (.dup, 1) := by decide +kernel
theorem d_Decimal_init_9 : decode b_Decimal_init 9 = .ok (.invokespecial 9, 3) := by decide +kernel
theorem d_Decimal_init_12 : decode b_Decimal_init 12 = .ok (.putfield 10, 3) := by decide +kernel
theorem d_Decimal_init_15 : decode b_Decimal_init 15 = .ok (.aload_n 0, 1) := by decide +kernel
theorem d_Decimal_init_16 : decode b_Decimal_init 16 = .ok (.iconst 0, 1) := by decide +kernel
theorem d_Decimal_init_17 : decode b_Decimal_init 17 = .ok (.putfield 16, 3) := by decide +kernel
theorem d_Decimal_init_20 : decode b_Decimal_init 20 = .ok (.aload_n 0, 1) := by decide +kernel
theorem d_Decimal_init_21 : decode b_Decimal_init 21 = .ok (.iconst 0, 1) := by decide +kernel
theorem d_Decimal_init_22 : decode b_Decimal_init 22 = .ok (.putfield 20, 3) := by decide +kernel
theorem d_Decimal_init_25 : decode b_Decimal_init 25 = .ok (.return_, 1) := by decide +kernel
theorem d_Decimal_parse_0 : decode b_Decimal_parse 0 = .ok (.aload_n 0, 1) := by decide +kernel
theorem d_Decimal_parse_1 : decode b_Decimal_parse 1 = .ok (.getfield 10, 3) := by decide +kernel
theorem d_Decimal_parse_4 : decode b_Decimal_parse 4 = .ok (.lconst 0, 1) := by decide +kernel
theorem d_Decimal_parse_5 : decode b_Decimal_parse 5 = .ok (.invokevirtual 24, 3) := by decide +kernel
theorem d_Decimal_parse_8 : decode b_Decimal_parse 8 = .ok (.aload_n 0, 1) := by decide +kernel
theorem d_Decimal_parse_9 : decode b_Decimal_parse 9 = .ok (.iconst 0, 1) := by decide +kernel
theorem d_Decimal_parse_10 : decode b_Decimal_parse 10 = .ok (.putfield 20, 3) := by decide +kernel
theorem d_Decimal_parse_13 : decode b_Decimal_parse 13 = .ok (.aload_n 0, 1) := by decide +kernel
theorem d_Decimal_parse_14 : decode b_Decimal_parse 14 = .ok (.aload_n 1, 1) := by decide +kernel
theorem d_Decimal_parse_15 : decode b_Decimal_parse 15 = .ok (.iconst 0, 1) := by decide +kernel
theorem d_Decimal_parse_16 : decode b_Decimal_parse 16 = .ok (.invokevirtual 28, 3) := by decide +kernel
theorem d_Decimal_parse_19 : decode b_Decimal_parse 19 = .ok (.bipush 45, 2) := by decide +kernel
theorem d_Decimal_parse_21 : decode b_Decimal_parse 21 = .ok (.if_icmp .ne 7, 3) := by decide +kernel
theorem d_Decimal_parse_24 : decode b_Decimal_parse 24 = .ok (.iconst 1, 1) := by decide +kernel
theorem d_Decimal_parse_25 : decode b_Decimal_parse 25 = .ok (.goto 4, 3) := by decide +kernel
theorem d_Decimal_parse_28 : decode b_Decimal_parse 28 = .ok (.iconst 0, 1) := by decide +kernel
theorem d_Decimal_parse_29 : decode b_Decimal_parse 29 = .ok (.putfield 16, 3) := by decide +kernel
theorem d_Decimal_parse_32 : decode b_Decimal_parse 32 = .ok (.aload_n 0, 1) := by decide +kernel
theorem d_Decimal_parse_33 : decode b_Decimal_parse 33 = .ok (.aload_n 1, 1) := by decide +kernel
theorem d_Decimal_parse_34 : decode b_Decimal_parse 34 = .ok (.aload_n 0, 1) := by decide +kernel
theorem d_Decimal_parse_35 : decode b_Decimal_parse 35 = .ok (.getfield 16, 3) := by decide +kernel
theorem d_Decimal_parse_38 : decode b_Decimal_parse 38 = .ok (.ifCond .eq 7, 3) := by decide +kernel
theorem d_Decimal_parse_41 : decode b_Decimal_parse 41 = .ok (.iconst 1, 1) := by decide +kernel
theorem d_Decimal_parse_42 : decode b_Decimal_parse 42 = .ok (.goto 4, 3) := by decide +kernel
theorem d_Decimal_parse_45 : decode b_Decimal_parse 45 = .ok (.iconst 0, 1) := by decide +kernel
theorem d_Decimal_parse_46 : decode b_Decimal_parse 46 = .ok (.invokevirtual 34, 3) := by decide +kernel
theorem d_Decimal_parse_49 : decode b_Decimal_parse 49 = .ok (.istore_n 2, 1) := by decide +kernel
theorem d_Decimal_parse_50 : decode b_Decimal_parse 50 = .ok (.iload_n 2, 1) := by decide +kernel
theorem d_Decimal_parse_51 : decode b_Decimal_parse 51 = .ok (.iconst (-1), 1) := by decide +kernel
theorem d_Decimal_parse_52 : decode b_Decimal_parse 52 = .ok (.if_icmp .eq 16, 3) := by decide +kernel
theorem d_Decimal_parse_55 : decode b_Decimal_parse 55 = .ok (.aload_n 0, 1) := by decide +kernel
theorem d_Decimal_parse_56 : decode b_Decimal_parse 56 = .ok (.aload_n 1, 1) := by decide +kernel
theorem d_Decimal_parse_57 : decode b_Decimal_parse 57 = .ok (.iload_n 2, 1) := by decide +kernel
theorem d_Decimal_parse_58 : decode b_Decimal_parse 58 = .ok (.invokevirtual 38, 3) := by decide +kernel
theorem d_Decimal_parse_61 : decode b_Decimal_parse 61 = .ok (.ifCond .eq 7, 3) := by decide +kernel
theorem d_Decimal_parse_64 : decode b_Decimal_parse 64 = .ok (.iconst 1, 1) := by decide +kernel
theorem d_Decimal_parse_65 : decode b_Decimal_parse 65 = .ok (.goto 4, 3) := by decide +kernel
theorem d_Decimal_parse_68 : decode b_Decimal_parse 68 = .ok (.iconst 0, 1) := by decide +kernel
theorem d_Decimal_parse_69 : decode b_Decimal_parse 69 = .ok (.ireturn, 1) := by decide +kernel
theorem d_Decimal_takeDigits_0 : decode b_Decimal_takeDigits 0 = .ok (.iconst 0, 1) := by decide +kernel
theorem d_Decimal_takeDigits_1 : decode b_Decimal_takeDigits 1 = .ok (.istore_n 3, 1) := by decide +kernel
theorem d_Decimal_takeDigits_2 : decode b_Decimal_takeDigits 2 = .ok (.iconst (-1), 1) := by decide +kernel
theorem d_Decimal_takeDigits_3 : decode b_Decimal_takeDigits 3 = .ok (.istore 4, 2) := by decide +kernel
theorem d_Decimal_takeDigits_5 : decode b_Decimal_takeDigits 5 = .ok (.iload_n 2, 1) := by decide +kernel
theorem d_Decimal_takeDigits_6 : decode b_Decimal_takeDigits 6 = .ok (.istore 5, 2) := by decide +kernel
theorem d_Decimal_takeDigits_8 : decode b_Decimal_takeDigits 8 = .ok (.iload 5, 2) := by decide +kernel
theorem d_Decimal_takeDigits_10 : decode b_Decimal_takeDigits 10 = .ok (.bipush 60, 2) := by decide +kernel
theorem d_Decimal_takeDigits_12 : decode b_Decimal_takeDigits 12 = .ok (.if_icmp .ge 65, 3) := by decide +kernel
theorem d_Decimal_takeDigits_15 : decode b_Decimal_takeDigits 15 = .ok (.aload_n 1, 1) := by decide +kernel
theorem d_Decimal_takeDigits_16 : decode b_Decimal_takeDigits 16 = .ok (.iload 5, 2) := by decide +kernel
theorem d_Decimal_takeDigits_18 : decode b_Decimal_takeDigits 18 = .ok (.invokevirtual 28, 3) := by decide +kernel
theorem d_Decimal_takeDigits_21 : decode b_Decimal_takeDigits 21 = .ok (.istore 6, 2) := by decide +kernel
theorem d_Decimal_takeDigits_23 : decode b_Decimal_takeDigits 23 = .ok (.iload 6, 2) := by decide +kernel
theorem d_Decimal_takeDigits_25 : decode b_Decimal_takeDigits 25 = .ok (.invokestatic 42, 3) := by decide +kernel
theorem d_Decimal_takeDigits_28 : decode b_Decimal_takeDigits 28 = .ok (.ifCond .eq 23, 3) := by decide +kernel
theorem d_Decimal_takeDigits_31 : decode b_Decimal_takeDigits 31 = .ok (.aload_n 0, 1) := by decide +kernel
theorem d_Decimal_takeDigits_32 : decode b_Decimal_takeDigits 32 = .ok (.getfield 10, 3) := by decide +kernel
theorem d_Decimal_takeDigits_35 : decode b_Decimal_takeDigits 35 = .ok (.bipush 10, 2) := by decide +kernel
theorem d_Decimal_takeDigits_37 : decode b_Decimal_takeDigits 37 = .ok (.iload 6, 2) := by decide +kernel
theorem d_Decimal_takeDigits_39 : decode b_Decimal_takeDigits 39 = .ok (.bipush 48, 2) := by decide +kernel
theorem d_Decimal_takeDigits_41 : decode b_Decimal_takeDigits 41 = .ok (.isub, 1) := by decide +kernel
theorem d_Decimal_takeDigits_42 : decode b_Decimal_takeDigits 42 = .ok (.invokevirtual 46, 3) := by decide +kernel
theorem d_Decimal_takeDigits_45 : decode b_Decimal_takeDigits 45 = .ok (.iinc 3 1, 3) := by decide +kernel
theorem d_Decimal_takeDigits_48 : decode b_Decimal_takeDigits 48 = .ok (.goto 23, 3) := by decide +kernel
theorem d_Decimal_takeDigits_51 : decode b_Decimal_takeDigits 51 = .ok (.iload 6, 2) := by decide +kernel
theorem d_Decimal_takeDigits_53 : decode b_Decimal_takeDigits 53 = .ok (.bipush 46, 2) := by decide +kernel
theorem d_Decimal_takeDigits_55 : decode b_Decimal_takeDigits 55 = .ok (.if_icmp .ne 22, 3) := by decide +kernel
theorem d_Decimal_takeDigits_58 : decode b_Decimal_takeDigits 58 = .ok (.iload 4, 2) := by decide +kernel
theorem d_Decimal_takeDigits_60 : decode b_Decimal_takeDigits 60 = .ok (.iconst (-1), 1) := by decide +kernel
theorem d_Decimal_takeDigits_61 : decode b_Decimal_takeDigits 61 = .ok (.if_icmp .ne 16, 3) := by decide +kernel
theorem d_Decimal_takeDigits_64 : decode b_Decimal_takeDigits 64 = .ok (.iload_n 3, 1) := by decide +kernel
theorem d_Decimal_takeDigits_65 : decode b_Decimal_takeDigits 65 = .ok (.ifCond .le 12, 3) := by decide +kernel
theorem d_Decimal_takeDigits_68 : decode b_Decimal_takeDigits 68 = .ok (.iload_n 3, 1) := by decide +kernel
theorem d_Decimal_takeDigits_69 : decode b_Decimal_takeDigits 69 = .ok (.istore 4, 2) := by decide +kernel
theorem d_Decimal_takeDigits_71 : decode b_Decimal_takeDigits 71 = .ok (.iinc 5 1, 3) := by decide +kernel
theorem d_Decimal_takeDigits_74 : decode b_Decimal_takeDigits 74 = .ok (.goto (-66), 3) := by decide +kernel
theorem d_Decimal_takeDigits_77 : decode b_Decimal_takeDigits 77 = .ok (.iload_n 3, 1) := by decide +kernel
theorem d_Decimal_takeDigits_78 : decode b_Decimal_takeDigits 78 = .ok (.ifCond .eq 15, 3) := by decide +kernel
theorem d_Decimal_takeDigits_81 : decode b_Decimal_takeDigits 81 = .ok (.iload_n 3, 1) := by decide +kernel
theorem d_Decimal_takeDigits_82 : decode b_Decimal_takeDigits 82 = .ok (.bipush 40, 2) := by decide +kernel
theorem d_Decimal_takeDigits_84 : decode b_Decimal_takeDigits 84 = .ok (.if_icmp .gt 9, 3) := by decide +kernel
theorem d_Decimal_takeDigits_87 : decode b_Decimal_takeDigits 87 = .ok (.iload 4, 2) := by decide +kernel
theorem d_Decimal_takeDigits_89 : decode b_Decimal_takeDigits 89 = .ok (.iload_n 3, 1) := by decide +kernel
theorem d_Decimal_takeDigits_90 : decode b_Decimal_takeDigits 90 = .ok (.if_icmp .ne 5, 3) := by decide +kernel
theorem d_Decimal_takeDigits_93 : decode b_Decimal_takeDigits 93 = .ok (.iconst (-1), 1) := by decide +kernel
theorem d_Decimal_takeDigits_94 : decode b_Decimal_takeDigits 94 = .ok (.ireturn, 1) := by decide +kernel
theorem d_Decimal_takeDigits_95 : decode b_Decimal_takeDigits 95 = .ok (.aload_n 0, 1) := by decide +kernel
theorem d_Decimal_takeDigits_96 : decode b_Decimal_takeDigits 96 = .ok (.iload 4, 2) := by decide +kernel
theorem d_Decimal_takeDigits_98 : decode b_Decimal_takeDigits 98 = .ok (.iconst (-1), 1) := by decide +kernel
theorem d_Decimal_takeDigits_99 : decode b_Decimal_takeDigits 99 = .ok (.if_icmp .ne 7, 3) := by decide +kernel
