theorem d_Model_exact_24 : decode b_Model_exact 24 = .ok (.ifCond .eq 8, 3) := by decide +kernel
theorem d_Model_exact_27 : decode b_Model_exact 27 = .ok (.aload_n 0, 1) := by decide +kernel
theorem d_Model_exact_28 : decode b_Model_exact 28 = .ok (.getfield 149, 3) := by decide +kernel
theorem d_Model_exact_31 : decode b_Model_exact 31 = .ok (.ireturn, 1) := by decide +kernel
theorem d_Model_exact_32 : decode b_Model_exact 32 = .ok (.aload_n 0, 1) := by decide +kernel
theorem d_Model_exact_33 : decode b_Model_exact 33 = .ok (.aload_n 0, 1) := by decide +kernel
theorem d_Model_exact_34 : decode b_Model_exact 34 = .ok (.lload_n 1, 1) := by decide +kernel
theorem d_Model_exact_35 : decode b_Model_exact 35 = .ok (.invokevirtual 143, 3) := by decide +kernel
theorem d_Model_exact_38 : decode b_Model_exact 38 = .ok (.invokevirtual 166, 3) := by decide +kernel
theorem d_Model_exact_41 : decode b_Model_exact 41 = .ok (.aload_n 0, 1) := by decide +kernel
theorem d_Model_exact_42 : decode b_Model_exact 42 = .ok (.getfield 26, 3) := by decide +kernel
theorem d_Model_exact_45 : decode b_Model_exact 45 = .ok (.istore_n 3, 1) := by decide +kernel
theorem d_Model_exact_46 : decode b_Model_exact 46 = .ok (.iload_n 3, 1) := by decide +kernel
theorem d_Model_exact_47 : decode b_Model_exact 47 = .ok (.bipush 60, 2) := by decide +kernel
theorem d_Model_exact_49 : decode b_Model_exact 49 = .ok (.if_icmp .gt 22, 3) := by decide +kernel
theorem d_Model_exact_52 : decode b_Model_exact 52 = .ok (.aload_n 0, 1) := by decide +kernel
theorem d_Model_exact_53 : decode b_Model_exact 53 = .ok (.bipush 48, 2) := by decide +kernel
theorem d_Model_exact_55 : decode b_Model_exact 55 = .ok (.aload_n 0, 1) := by decide +kernel
theorem d_Model_exact_56 : decode b_Model_exact 56 = .ok (.getfield 23, 3) := by decide +kernel
theorem d_Model_exact_59 : decode b_Model_exact 59 = .ok (.iload_n 3, 1) := by decide +kernel
theorem d_Model_exact_60 : decode b_Model_exact 60 = .ok (.iaload, 1) := by decide +kernel
theorem d_Model_exact_61 : decode b_Model_exact 61 = .ok (.iadd, 1) := by decide +kernel
theorem d_Model_exact_62 : decode b_Model_exact 62 = .ok (.invokevirtual 156, 3) := by decide +kernel
theorem d_Model_exact_65 : decode b_Model_exact 65 = .ok (.iinc 3 1, 3) := by decide +kernel
theorem d_Model_exact_68 : decode b_Model_exact 68 = .ok (.goto (-22), 3) := by decide +kernel
theorem d_Model_exact_71 : decode b_Model_exact 71 = .ok (.aload_n 0, 1) := by decide +kernel
theorem d_Model_exact_72 : decode b_Model_exact 72 = .ok (.getfield 29, 3) := by decide +kernel
theorem d_Model_exact_75 : decode b_Model_exact 75 = .ok (.bipush 60, 2) := by decide +kernel
theorem d_Model_exact_77 : decode b_Model_exact 77 = .ok (.if_icmp .le 28, 3) := by decide +kernel
theorem d_Model_exact_80 : decode b_Model_exact 80 = .ok (.aload_n 0, 1) := by decide +kernel
theorem d_Model_exact_81 : decode b_Model_exact 81 = .ok (.getfield 23, 3) := by decide +kernel
theorem d_Model_exact_84 : decode b_Model_exact 84 = .ok (.aload_n 0, 1) := by decide +kernel
theorem d_Model_exact_85 : decode b_Model_exact 85 = .ok (.getfield 29, 3) := by decide +kernel
theorem d_Model_exact_88 : decode b_Model_exact 88 = .ok (.iaload, 1) := by decide +kernel
theorem d_Model_exact_89 : decode b_Model_exact 89 = .ok (.ifCond .ne 16, 3) := by decide +kernel
theorem d_Model_exact_92 : decode b_Model_exact 92 = .ok (.aload_n 0, 1) := by decide +kernel
theorem d_Model_exact_93 : decode b_Model_exact 93 = .ok (.dup, 1) := by decide +kernel
theorem d_Model_exact_94 : decode b_Model_exact 94 = .ok (.getfield 29, 3) := by decide +kernel
theorem d_Model_exact_97 : decode b_Model_exact 97 = .ok (.iconst 1, 1) := by decide +kernel
theorem d_Model_exact_98 : decode b_Model_exact 98 = .ok (.isub, 1) := by decide +kernel
theorem d_Model_exact_99 : decode b_Model_exact 99 = .ok (.putfield 29, 3) := by decide +kernel
theorem d_Model_exact_102 : decode b_Model_exact 102 = .ok (.goto (-31), 3) := by decide +kernel
theorem d_Model_exact_105 : decode b_Model_exact 105 = .ok (.aload_n 0, 1) := by decide +kernel
theorem d_Model_exact_106 : decode b_Model_exact 106 = .ok (.getfield 29, 3) := by decide +kernel
theorem d_Model_exact_109 : decode b_Model_exact 109 = .ok (.bipush 60, 2) := by decide +kernel
theorem d_Model_exact_111 : decode b_Model_exact 111 = .ok (.if_icmp .le 9, 3) := by decide +kernel
theorem d_Model_exact_114 : decode b_Model_exact 114 = .ok (.aload_n 0, 1) := by decide +kernel
theorem d_Model_exact_115 : decode b_Model_exact 115 = .ok (.bipush 46, 2) := by decide +kernel
theorem d_Model_exact_117 : decode b_Model_exact 117 = .ok (.invokevirtual 156, 3) := by decide +kernel
theorem d_Model_exact_120 : decode b_Model_exact 120 = .ok (.bipush 61, 2) := by decide +kernel
theorem d_Model_exact_122 : decode b_Model_exact 122 = .ok (.istore_n 3, 1) := by decide +kernel
theorem d_Model_exact_123 : decode b_Model_exact 123 = .ok (.iload_n 3, 1) := by decide +kernel
theorem d_Model_exact_124 : decode b_Model_exact 124 = .ok (.aload_n 0, 1) := by decide +kernel
theorem d_Model_exact_125 : decode b_Model_exact 125 = .ok (.getfield 29, 3) := by decide +kernel
theorem d_Model_exact_128 : decode b_Model_exact 128 = .ok (.if_icmp .gt 22, 3) := by decide +kernel
theorem d_Model_exact_131 : decode b_Model_exact 131 = .ok (.aload_n 0, 1) := by decide +kernel
theorem d_Model_exact_132 : decode b_Model_exact 132 = .ok (.bipush 48, 2) := by decide +kernel
theorem d_Model_exact_134 : decode b_Model_exact 134 = .ok (.aload_n 0, 1) := by decide +kernel
theorem d_Model_exact_135 : decode b_Model_exact 135 = .ok (.getfield 23, 3) := by decide +kernel
theorem d_Model_exact_138 : decode b_Model_exact 138 = .ok (.iload_n 3, 1) := by decide +kernel
theorem d_Model_exact_139 : decode b_Model_exact 139 = .ok (.iaload, 1) := by decide +kernel
theorem d_Model_exact_140 : decode b_Model_exact 140 = .ok (.iadd, 1) := by decide +kernel
theorem d_Model_exact_141 : decode b_Model_exact 141 = .ok (.invokevirtual 156, 3) := by decide +kernel
theorem d_Model_exact_144 : decode b_Model_exact 144 = .ok (.iinc 3 1, 3) := by decide +kernel
theorem d_Model_exact_147 : decode b_Model_exact 147 = .ok (.goto (-24), 3) := by decide +kernel
theorem d_Model_exact_150 : decode b_Model_exact 150 = .ok (.aload_n 0, 1) := by decide +kernel
theorem d_Model_exact_151 : decode b_Model_exact 151 = .ok (.getfield 149, 3) := by decide +kernel
theorem d_Model_exact_154 : decode b_Model_exact 154 = .ok (.ireturn, 1) := by decide +kernel
theorem d_Model_keepWhole_0 : decode b_Model_keepWhole 0 = .ok (.iconst 0, 1) := by decide +kernel
theorem d_Model_keepWhole_1 : decode b_Model_keepWhole 1 = .ok (.istore_n 1, 1) := by decide +kernel
theorem d_Model_keepWhole_2 : decode b_Model_keepWhole 2 = .ok (.iload_n 1, 1) := by decide +kernel
theorem d_Model_keepWhole_3 : decode b_Model_keepWhole 3 = .ok (.sipush 400, 3) := by decide +kernel
theorem d_Model_keepWhole_6 : decode b_Model_keepWhole 6 = .ok (.if_icmp .ge 21, 3) := by decide +kernel
theorem d_Model_keepWhole_9 : decode b_Model_keepWhole 9 = .ok (.aload_n 0, 1) := by decide +kernel
theorem d_Model_keepWhole_10 : decode b_Model_keepWhole 10 = .ok (.getfield 32, 3) := by decide +kernel
theorem d_Model_keepWhole_13 : decode b_Model_keepWhole 13 = .ok (.iload_n 1, 1) := by decide +kernel
theorem d_Model_keepWhole_14 : decode b_Model_keepWhole 14 = .ok (.aload_n 0, 1) := by decide +kernel
theorem d_Model_keepWhole_15 : decode b_Model_keepWhole 15 = .ok (.getfield 23, 3) := by decide +kernel
theorem d_Model_keepWhole_18 : decode b_Model_keepWhole 18 = .ok (.iload_n 1, 1) := by decide +kernel
theorem d_Model_keepWhole_19 : decode b_Model_keepWhole 19 = .ok (.iaload, 1) := by decide +kernel
theorem d_Model_keepWhole_20 : decode b_Model_keepWhole 20 = .ok (.iastore, 1) := by decide +kernel
theorem d_Model_keepWhole_21 : decode b_Model_keepWhole 21 = .ok (.iinc 1 1, 3) := by decide +kernel
theorem d_Model_keepWhole_24 : decode b_Model_keepWhole 24 = .ok (.goto (-22), 3) := by decide +kernel
theorem d_Model_keepWhole_27 : decode b_Model_keepWhole 27 = .ok (.aload_n 0, 1) := by decide +kernel
theorem d_Model_keepWhole_28 : decode b_Model_keepWhole 28 = .ok (.aload_n 0, 1) := by decide +kernel
theorem d_Model_keepWhole_29 : decode b_Model_keepWhole 29 = .ok (.getfield 26, 3) := by decide +kernel
theorem d_Model_keepWhole_32 : decode b_Model_keepWhole 32 = .ok (.putfield 170, 3) := by decide +kernel
theorem d_Model_keepWhole_35 : decode b_Model_keepWhole 35 = .ok (.aload_n 0, 1) := by decide +kernel
theorem d_Model_keepWhole_36 : decode b_Model_keepWhole 36 = .ok (.getfield 170, 3) := by decide +kernel
theorem d_Model_keepWhole_39 : decode b_Model_keepWhole 39 = .ok (.sipush 399, 3) := by decide +kernel
theorem d_Model_keepWhole_42 : decode b_Model_keepWhole 42 = .ok (.if_icmp .ge 28, 3) := by decide +kernel
theorem d_Model_keepWhole_45 : decode b_Model_keepWhole 45 = .ok (.aload_n 0, 1) := by decide +kernel
theorem d_Model_keepWhole_46 : decode b_Model_keepWhole 46 = .ok (.getfield 32, 3) := by decide +kernel
theorem d_Model_keepWhole_49 : decode b_Model_keepWhole 49 = .ok (.aload_n 0, 1) := by decide +kernel
theorem d_Model_keepWhole_50 : decode b_Model_keepWhole 50 = .ok (.getfield 170, 3) := by decide +kernel
theorem d_Model_keepWhole_53 : decode b_Model_keepWhole 53 = .ok (.iaload, 1) := by decide +kernel
theorem d_Model_keepWhole_54 : decode b_Model_keepWhole 54 = .ok (.ifCond .ne 16, 3) := by decide +kernel
theorem d_Model_keepWhole_57 : decode b_Model_keepWhole 57 = .ok (.aload_n 0, 1) := by decide +kernel
theorem d_Model_keepWhole_58 : decode b_Model_keepWhole 58 = .ok (.dup, 1) := by decide +kernel
theorem d_Model_keepWhole_59 : decode b_Model_keepWhole 59 = .ok (.getfield 170, 3) := by decide +kernel
theorem d_Model_keepWhole_62 : decode b_Model_keepWhole 62 = .ok (.iconst 1, 1) := by decide +kernel
theorem d_Model_keepWhole_63 : decode b_Model_keepWhole 63 = .ok (.iadd, 1) := by decide +kernel
theorem d_Model_keepWhole_64 : decode b_Model_keepWhole 64 = .ok (.putfield 170, 3) := by decide +kernel
theorem d_Model_keepWhole_67 : decode b_Model_keepWhole 67 = .ok (.goto (-32), 3) := by decide +kernel
theorem d_Model_keepWhole_70 : decode b_Model_keepWhole 70 = .ok (.aload_n 0, 1) := by decide +kernel
theorem d_Model_keepWhole_71 : decode b_Model_keepWhole 71 = .ok (.aload_n 0, 1) := by decide +kernel
theorem d_Model_keepWhole_72 : decode b_Model_keepWhole 72 = .ok (.getfield 29, 3) := by decide +kernel
theorem d_Model_keepWhole_75 : decode b_Model_keepWhole 75 = .ok (.putfield 173, 3) := by decide +kernel
theorem d_Model_keepWhole_78 : decode b_Model_keepWhole 78 = .ok (.aload_n 0, 1) := by decide +kernel
theorem d_Model_keepWhole_79 : decode b_Model_keepWhole 79 = .ok (.getfield 173, 3) := by decide +kernel
theorem d_Model_keepWhole_82 : decode b_Model_keepWhole 82 = .ok (.aload_n 0, 1) := by decide +kernel
theorem d_Model_keepWhole_83 : decode b_Model_keepWhole 83 = .ok (.getfield 170, 3) := by decide +kernel
theorem d_Model_keepWhole_86 : decode b_Model_keepWhole 86 = .ok (.if_icmp .le 28, 3) := by decide +kernel
theorem d_Model_keepWhole_89 : decode b_Model_keepWhole 89 = .ok (.aload_n 0, 1) := by decide +kernel
theorem d_Model_keepWhole_90 : decode b_Model_keepWhole 90 = .ok (.getfield 32, 3) := by decide +kernel
theorem d_Model_keepWhole_93 : decode b_Model_keepWhole 93 = .ok (.aload_n 0, 1) := by decide +kernel
theorem d_Model_keepWhole_94 : decode b_Model_keepWhole 94 = .ok (.getfield 173, 3) := by decide +kernel
theorem d_Model_keepWhole_97 : decode b_Model_keepWhole 97 = .ok (.iaload, 1) := by decide +kernel
theorem d_Model_keepWhole_98 : decode b_Model_keepWhole 98 = .ok (.ifCond .ne 16, 3) := by decide +kernel
theorem d_Model_keepWhole_101 : decode b_Model_keepWhole 101 = .ok (.aload_n 0, 1) := by decide +kernel
theorem d_Model_keepWhole_102 : decode b_Model_keepWhole 102 = .ok (.dup, 1) := by decide +kernel
theorem d_Model_keepWhole_103 : decode b_Model_keepWhole 103 = .ok (.getfield 173, 3) := by decide +kernel
theorem d_Model_keepWhole_106 : decode b_Model_keepWhole 106 = .ok (.iconst 1, 1) := by decide +kernel
theorem d_Model_keepWhole_107 : decode b_Model_keepWhole 107 = .ok (.isub, 1) := by decide +kernel
theorem d_Model_keepWhole_108 : decode b_Model_keepWhole 108 = .ok (.putfield 173, 3) := by decide +kernel
theorem d_Model_keepWhole_111 : decode b_Model_keepWhole 111 = .ok (.goto (-33), 3) := by decide +kernel
theorem d_Model_keepWhole_114 : decode b_Model_keepWhole 114 = .ok (.return_, 1) := by decide +kernel
theorem d_Model_cut_0 : decode b_Model_cut 0 = .ok (.aload_n 0, 1) := by decide +kernel
theorem d_Model_cut_1 : decode b_Model_cut 1 = .ok (.bipush 60, 2) := by decide +kernel
theorem d_Model_cut_3 : decode b_Model_cut 3 = .ok (.aload_n 0, 1) := by decide +kernel
theorem d_Model_cut_4 : decode b_Model_cut 4 = .ok (.getfield 170, 3) := by decide +kernel
theorem d_Model_cut_7 : decode b_Model_cut 7 = .ok (.isub, 1) := by decide +kernel
theorem d_Model_cut_8 : decode b_Model_cut 8 = .ok (.putfield 176, 3) := by decide +kernel
theorem d_Model_cut_11 : decode b_Model_cut 11 = .ok (.iconst 0, 1) := by decide +kernel
theorem d_Model_cut_12 : decode b_Model_cut 12 = .ok (.istore_n 3, 1) := by decide +kernel
theorem d_Model_cut_13 : decode b_Model_cut 13 = .ok (.iload_n 3, 1) := by decide +kernel
theorem d_Model_cut_14 : decode b_Model_cut 14 = .ok (.iload_n 1, 1) := by decide +kernel
theorem d_Model_cut_15 : decode b_Model_cut 15 = .ok (.if_icmp .ge 26, 3) := by decide +kernel
theorem d_Model_cut_18 : decode b_Model_cut 18 = .ok (.aload_n 0, 1) := by decide +kernel
theorem d_Model_cut_19 : decode b_Model_cut 19 = .ok (.getfield 38, 3) := by decide +kernel
theorem d_Model_cut_22 : decode b_Model_cut 22 = .ok (.iload_n 3, 1) := by decide +kernel
theorem d_Model_cut_23 : decode b_Model_cut 23 = .ok (.aload_n 0, 1) := by decide +kernel
theorem d_Model_cut_24 : decode b_Model_cut 24 = .ok (.getfield 32, 3) := by decide +kernel
theorem d_Model_cut_27 : decode b_Model_cut 27 = .ok (.aload_n 0, 1) := by decide +kernel
theorem d_Model_cut_28 : decode b_Model_cut 28 = .ok (.getfield 170, 3) := by decide +kernel
theorem d_Model_cut_31 : decode b_Model_cut 31 = .ok (.iload_n 3, 1) := by decide +kernel
theorem d_Model_cut_32 : decode b_Model_cut 32 = .ok (.iadd, 1) := by decide +kernel
theorem d_Model_cut_33 : decode b_Model_cut 33 = .ok (.iaload, 1) := by decide +kernel
theorem d_Model_cut_34 : decode b_Model_cut 34 = .ok (.iastore, 1) := by decide +kernel
theorem d_Model_cut_35 : decode b_Model_cut 35 = .ok (.iinc 3 1, 3) := by decide +kernel
theorem d_Model_cut_38 : decode b_Model_cut 38 = .ok (.goto (-25), 3) := by decide +kernel
theorem d_Model_cut_41 : decode b_Model_cut 41 = .ok (.iload_n 2, 1) := by decide +kernel
theorem d_Model_cut_42 : decode b_Model_cut 42 = .ok (.ifCond .ne 4, 3) := by decide +kernel
theorem d_Model_cut_45 : decode b_Model_cut 45 = .ok (.return_, 1) := by decide +kernel
theorem d_Model_cut_46 : decode b_Model_cut 46 = .ok (.iload_n 1, 1) := by decide +kernel
theorem d_Model_cut_47 : decode b_Model_cut 47 = .ok (.iconst 1, 1) := by decide +kernel
theorem d_Model_cut_48 : decode b_Model_cut 48 = .ok (.isub, 1) := by decide +kernel
theorem d_Model_cut_49 : decode b_Model_cut 49 = .ok (.istore_n 3, 1) := by decide +kernel
theorem d_Model_cut_50 : decode b_Model_cut 50 = .ok (.iload_n 3, 1) := by decide +kernel
theorem d_Model_cut_51 : decode b_Model_cut 51 = .ok (.ifCond .lt 27, 3) := by decide +kernel
theorem d_Model_cut_54 : decode b_Model_cut 54 = .ok (.aload_n 0, 1) := by decide +kernel
theorem d_Model_cut_55 : decode b_Model_cut 55 = .ok (.getfield 38, 3) := by decide +kernel
theorem d_Model_cut_58 : decode b_Model_cut 58 = .ok (.iload_n 3, 1) := by decide +kernel
theorem d_Model_cut_59 : decode b_Model_cut 59 = .ok (.iaload, 1) := by decide +kernel
theorem d_Model_cut_60 : decode b_Model_cut 60 = .ok (.bipush 9, 2) := by decide +kernel
theorem d_Model_cut_62 : decode b_Model_cut 62 = .ok (.if_icmp .ne 16, 3) := by decide +kernel
theorem d_Model_cut_65 : decode b_Model_cut 65 = .ok (.aload_n 0, 1) := by decide +kernel
theorem d_Model_cut_66 : decode b_Model_cut 66 = .ok (.getfield 38, 3) := by decide +kernel
theorem d_Model_cut_69 : decode b_Model_cut 69 = .ok (.iload_n 3, 1) := by decide +kernel
theorem d_Model_cut_70 : decode b_Model_cut 70 = .ok (.iconst 0, 1) := by decide +kernel
theorem d_Model_cut_71 : decode b_Model_cut 71 = .ok (.iastore, 1) := by decide +kernel
theorem d_Model_cut_72 : decode b_Model_cut 72 = .ok (.iinc 3 (-1), 3) := by decide +kernel
theorem d_Model_cut_75 : decode b_Model_cut 75 = .ok (.goto (-25), 3) := by decide +kernel
theorem d_Model_cut_78 : decode b_Model_cut 78 = .ok (.iload_n 3, 1) := by decide +kernel
theorem d_Model_cut_79 : decode b_Model_cut 79 = .ok (.ifCond .lt 16, 3) := by decide +kernel
theorem d_Model_cut_82 : decode b_Model_cut 82 = .ok (.aload_n 0, 1) := by decide +kernel
theorem d_Model_cut_83 : decode b_Model_cut 83 = .ok (.getfield 38, 3) := by decide +kernel
theorem d_Model_cut_86 : decode b_Model_cut 86 = .ok (.iload_n 3, 1) := by decide +kernel
theorem d_Model_cut_87 : decode b_Model_cut 87 = .ok (.dup2, 1) := by decide +kernel
theorem d_Model_cut_88 : decode b_Model_cut 88 = .ok (.iaload, 1) := by decide +kernel
theorem d_Model_cut_89 : decode b_Model_cut 89 = .ok (.iconst 1, 1) := by decide +kernel
theorem d_Model_cut_90 : decode b_Model_cut 90 = .ok (.iadd, 1) := by decide +kernel
theorem d_Model_cut_91 : decode b_Model_cut 91 = .ok (.iastore, 1) := by decide +kernel
theorem d_Model_cut_92 : decode b_Model_cut 92 = .ok (.goto 20, 3) := by decide +kernel
theorem d_Model_cut_95 : decode b_Model_cut 95 = .ok (.aload_n 0, 1) := by decide +kernel
theorem d_Model_cut_96 : decode b_Model_cut 96 = .ok (.getfield 38, 3) := by decide +kernel
theorem d_Model_cut_99 : decode b_Model_cut 99 = .ok (.iconst 0, 1) := by decide +kernel
theorem d_Model_cut_100 : decode b_Model_cut 100 = .ok (.iconst 1, 1) := by decide +kernel
theorem d_Model_cut_101 : decode b_Model_cut 101 = .ok (.iastore, 1) := by decide +kernel
theorem d_Model_cut_102 : decode b_Model_cut 102 = .ok (.aload_n 0, 1) := by decide +kernel
theorem d_Model_cut_103 : decode b_Model_cut 103 = .ok (.dup, 1) := by decide +kernel
theorem d_Model_cut_104 : decode b_Model_cut 104 = .ok (.getfield 176, 3) := by decide +kernel
theorem d_Model_cut_107 : decode b_Model_cut 107 = .ok (.iconst 1, 1) := by decide +kernel
theorem d_Model_cut_108 : decode b_Model_cut 108 = .ok (.iadd, 1) := by decide +kernel
theorem d_Model_cut_109 : decode b_Model_cut 109 = .ok (.putfield 176, 3) := by decide +kernel
theorem d_Model_cut_112 : decode b_Model_cut 112 = .ok (.return_, 1) := by decide +kernel
theorem d_Model_comesBack_0 : decode b_Model_comesBack 0 = .ok (.aload_n 0, 1) := by decide +kernel
theorem d_Model_comesBack_1 : decode b_Model_comesBack 1 = .ok (.invokevirtual 121, 3) := by decide +kernel
theorem d_Model_comesBack_4 : decode b_Model_comesBack 4 = .ok (.iconst 0, 1) := by decide +kernel
theorem d_Model_comesBack_5 : decode b_Model_comesBack 5 = .ok (.istore 4, 2) := by decide +kernel
theorem d_Model_comesBack_7 : decode b_Model_comesBack 7 = .ok (.iload 4, 2) := by decide +kernel
theorem d_Model_comesBack_9 : decode b_Model_comesBack 9 = .ok (.iload_n 1, 1) := by decide +kernel
theorem d_Model_comesBack_10 : decode b_Model_comesBack 10 = .ok (.if_icmp .ge 30, 3) := by decide +kernel
theorem d_Model_comesBack_13 : decode b_Model_comesBack 13 = .ok (.aload_n 0, 1) := by decide +kernel
theorem d_Model_comesBack_14 : decode b_Model_comesBack 14 = .ok (.bipush 60, 2) := by decide +kernel
theorem d_Model_comesBack_16 : decode b_Model_comesBack 16 = .ok (.aload_n 0, 1) := by decide +kernel
theorem d_Model_comesBack_17 : decode b_Model_comesBack 17 = .ok (.getfield 176, 3) := by decide +kernel
theorem d_Model_comesBack_20 : decode b_Model_comesBack 20 = .ok (.isub, 1) := by decide +kernel
theorem d_Model_comesBack_21 : decode b_Model_comesBack 21 = .ok (.iload 4, 2) := by decide +kernel
theorem d_Model_comesBack_23 : decode b_Model_comesBack 23 = .ok (.iadd, 1) := by decide +kernel
theorem d_Model_comesBack_24 : decode b_Model_comesBack 24 = .ok (.aload_n 0, 1) := by decide +kernel
theorem d_Model_comesBack_25 : decode b_Model_comesBack 25 = .ok (.getfield 38, 3) := by decide +kernel
theorem d_Model_comesBack_28 : decode b_Model_comesBack 28 = .ok (.iload 4, 2) := by decide +kernel
theorem d_Model_comesBack_30 : decode b_Model_comesBack 30 = .ok (.iaload, 1) := by decide +kernel
theorem d_Model_comesBack_31 : decode b_Model_comesBack 31 = .ok (.invokevirtual 124, 3) := by decide +kernel
theorem d_Model_comesBack_34 : decode b_Model_comesBack 34 = .ok (.iinc 4 1, 3) := by decide +kernel
theorem d_Model_comesBack_37 : decode b_Model_comesBack 37 = .ok (.goto (-30), 3) := by decide +kernel
theorem d_Model_comesBack_40 : decode b_Model_comesBack 40 = .ok (.aload_n 0, 1) := by decide +kernel
theorem d_Model_comesBack_41 : decode b_Model_comesBack 41 = .ok (.iconst 0, 1) := by decide +kernel
theorem d_Model_comesBack_42 : decode b_Model_comesBack 42 = .ok (.iconst 0, 1) := by decide +kernel
theorem d_Model_comesBack_43 : decode b_Model_comesBack 43 = .ok (.invokevirtual 128, 3) := by decide +kernel
theorem d_Model_comesBack_46 : decode b_Model_comesBack 46 = .ok (.lload_n 2, 1) := by decide +kernel
theorem d_Model_comesBack_47 : decode b_Model_comesBack 47 = .ok (.lcmp, 1) := by decide +kernel
theorem d_Model_comesBack_48 : decode b_Model_comesBack 48 = .ok (.ifCond .ne 7, 3) := by decide +kernel
theorem d_Model_comesBack_51 : decode b_Model_comesBack 51 = .ok (.iconst 1, 1) := by decide +kernel
theorem d_Model_comesBack_52 : decode b_Model_comesBack 52 = .ok (.goto 4, 3) := by decide +kernel
theorem d_Model_comesBack_55 : decode b_Model_comesBack 55 = .ok (.iconst 0, 1) := by decide +kernel
theorem d_Model_comesBack_56 : decode b_Model_comesBack 56 = .ok (.ireturn, 1) := by decide +kernel
theorem d_Model_beside_0 : decode b_Model_beside 0 = .ok (.aload_n 0, 1) := by decide +kernel
theorem d_Model_beside_1 : decode b_Model_beside 1 = .ok (.getfield 32, 3) := by decide +kernel
theorem d_Model_beside_4 : decode b_Model_beside 4 = .ok (.aload_n 0, 1) := by decide +kernel
theorem d_Model_beside_5 : decode b_Model_beside 5 = .ok (.getfield 170, 3) := by decide +kernel
theorem d_Model_beside_8 : decode b_Model_beside 8 = .ok (.iload_n 1, 1) := by decide +kernel
theorem d_Model_beside_9 : decode b_Model_beside 9 = .ok (.iadd, 1) := by decide +kernel
theorem d_Model_beside_10 : decode b_Model_beside 10 = .ok (.iaload, 1) := by decide +kernel
theorem d_Model_beside_11 : decode b_Model_beside 11 = .ok (.istore_n 2, 1) := by decide +kernel
theorem d_Model_beside_12 : decode b_Model_beside 12 = .ok (.aload_n 0, 1) := by decide +kernel
theorem d_Model_beside_13 : decode b_Model_beside 13 = .ok (.getfield 173, 3) := by decide +kernel
theorem d_Model_beside_16 : decode b_Model_beside 16 = .ok (.aload_n 0, 1) := by decide +kernel
theorem d_Model_beside_17 : decode b_Model_beside 17 = .ok (.getfield 170, 3) := by decide +kernel
theorem d_Model_beside_20 : decode b_Model_beside 20 = .ok (.iload_n 1, 1) := by decide +kernel
theorem d_Model_beside_21 : decode b_Model_beside 21 = .ok (.iadd, 1) := by decide +kernel
theorem d_Model_beside_22 : decode b_Model_beside 22 = .ok (.if_icmp .le 7, 3) := by decide +kernel
theorem d_Model_beside_25 : decode b_Model_beside 25 = .ok (.iconst 1, 1) := by decide +kernel
theorem d_Model_beside_26 : decode b_Model_beside 26 = .ok (.goto 4, 3) := by decide +kernel
theorem d_Model_beside_29 : decode b_Model_beside 29 = .ok (.iconst 0, 1) := by decide +kernel
theorem d_Model_beside_30 : decode b_Model_beside 30 = .ok (.istore_n 3, 1) := by decide +kernel
theorem d_Model_beside_31 : decode b_Model_beside 31 = .ok (.iload_n 2, 1) := by decide +kernel
theorem d_Model_beside_32 : decode b_Model_beside 32 = .ok (.iconst 5, 1) := by decide +kernel
theorem d_Model_beside_33 : decode b_Model_beside 33 = .ok (.if_icmp .gt 12, 3) := by decide +kernel
theorem d_Model_beside_36 : decode b_Model_beside 36 = .ok (.iload_n 2, 1) := by decide +kernel
theorem d_Model_beside_37 : decode b_Model_beside 37 = .ok (.iconst 5, 1) := by decide +kernel
theorem d_Model_beside_38 : decode b_Model_beside 38 = .ok (.if_icmp .ne 11, 3) := by decide +kernel
theorem d_Model_beside_41 : decode b_Model_beside 41 = .ok (.iload_n 3, 1) := by decide +kernel
theorem d_Model_beside_42 : decode b_Model_beside 42 = .ok (.ifCond .eq 7, 3) := by decide +kernel
theorem d_Model_beside_45 : decode b_Model_beside 45 = .ok (.iconst 1, 1) := by decide +kernel
theorem d_Model_beside_46 : decode b_Model_beside 46 = .ok (.goto 13, 3) := by decide +kernel
theorem d_Model_beside_49 : decode b_Model_beside 49 = .ok (.iload_n 2, 1) := by decide +kernel
theorem d_Model_beside_50 : decode b_Model_beside 50 = .ok (.iconst 5, 1) := by decide +kernel
theorem d_Model_beside_51 : decode b_Model_beside 51 = .ok (.if_icmp .ne 7, 3) := by decide +kernel
theorem d_Model_beside_54 : decode b_Model_beside 54 = .ok (.iconst 0, 1) := by decide +kernel
theorem d_Model_beside_55 : decode b_Model_beside 55 = .ok (.goto 4, 3) := by decide +kernel
theorem d_Model_beside_58 : decode b_Model_beside 58 = .ok (.iconst (-1), 1) := by decide +kernel
theorem d_Model_beside_59 : decode b_Model_beside 59 = .ok (.ireturn, 1) := by decide +kernel
theorem d_Model_sayTried_0 : decode b_Model_sayTried 0 = .ok (.iload_n 1, 1) := by decide +kernel
theorem d_Model_sayTried_1 : decode b_Model_sayTried 1 = .ok (.istore_n 2, 1) := by decide +kernel
theorem d_Model_sayTried_2 : decode b_Model_sayTried 2 = .ok (.iload_n 2, 1) := by decide +kernel
theorem d_Model_sayTried_3 : decode b_Model_sayTried 3 = .ok (.iconst 1, 1) := by decide +kernel
theorem d_Model_sayTried_4 : decode b_Model_sayTried 4 = .ok (.if_icmp .le 20, 3) := by decide +kernel
theorem d_Model_sayTried_7 : decode b_Model_sayTried 7 = .ok (.aload_n 0, 1) := by decide +kernel
theorem d_Model_sayTried_8 : decode b_Model_sayTried 8 = .ok (.getfield 38, 3) := by decide +kernel
theorem d_Model_sayTried_11 : decode b_Model_sayTried 11 = .ok (.iload_n 2, 1) := by decide +kernel
theorem d_Model_sayTried_12 : decode b_Model_sayTried 12 = .ok (.iconst 1, 1) := by decide +kernel
theorem d_Model_sayTried_13 : decode b_Model_sayTried 13 = .ok (.isub, 1) := by decide +kernel
theorem d_Model_sayTried_14 : decode b_Model_sayTried 14 = .ok (.iaload, 1) := by decide +kernel
theorem d_Model_sayTried_15 : decode b_Model_sayTried 15 = .ok (.ifCond .ne 9, 3) := by decide +kernel
theorem d_Model_sayTried_18 : decode b_Model_sayTried 18 = .ok (.iinc 2 (-1), 3) := by decide +kernel
theorem d_Model_sayTried_21 : decode b_Model_sayTried 21 = .ok (.goto (-19), 3) := by decide +kernel
theorem d_Model_sayTried_24 : decode b_Model_sayTried 24 = .ok (.aload_n 0, 1) := by decide +kernel
theorem d_Model_sayTried_25 : decode b_Model_sayTried 25 = .ok (.bipush 48, 2) := by decide +kernel
theorem d_Model_sayTried_27 : decode b_Model_sayTried 27 = .ok (.aload_n 0, 1) := by decide +kernel
theorem d_Model_sayTried_28 : decode b_Model_sayTried 28 = .ok (.getfield 38, 3) := by decide +kernel
theorem d_Model_sayTried_31 : decode b_Model_sayTried 31 = .ok (.iconst 0, 1) := by decide +kernel
theorem d_Model_sayTried_32 : decode b_Model_sayTried 32 = .ok (.iaload, 1) := by decide +kernel
theorem d_Model_sayTried_33 : decode b_Model_sayTried 33 = .ok (.iadd, 1) := by decide +kernel
theorem d_Model_sayTried_34 : decode b_Model_sayTried 34 = .ok (.invokevirtual 156, 3) := by decide +kernel
theorem d_Model_sayTried_37 : decode b_Model_sayTried 37 = .ok (.iload_n 2, 1) := by decide +kernel
theorem d_Model_sayTried_38 : decode b_Model_sayTried 38 = .ok (.iconst 1, 1) := by decide +kernel
theorem d_Model_sayTried_39 : decode b_Model_sayTried 39 = .ok (.if_icmp .le 9, 3) := by decide +kernel
theorem d_Model_sayTried_42 : decode b_Model_sayTried 42 = .ok (.aload_n 0, 1) := by decide +kernel
theorem d_Model_sayTried_43 : decode b_Model_sayTried 43 = .ok (.bipush 46, 2) := by decide +kernel
theorem d_Model_sayTried_45 : decode b_Model_sayTried 45 = .ok (.invokevirtual 156, 3) := by decide +kernel
theorem d_Model_sayTried_48 : decode b_Model_sayTried 48 = .ok (.iconst 1, 1) := by decide +kernel
theorem d_Model_sayTried_49 : decode b_Model_sayTried 49 = .ok (.istore_n 3, 1) := by decide +kernel
theorem d_Model_sayTried_50 : decode b_Model_sayTried 50 = .ok (.iload_n 3, 1) := by decide +kernel
theorem d_Model_sayTried_51 : decode b_Model_sayTried 51 = .ok (.iload_n 2, 1) := by decide +kernel
theorem d_Model_sayTried_52 : decode b_Model_sayTried 52 = .ok (.if_icmp .ge 22, 3) := by decide +kernel
theorem d_Model_sayTried_55 : decode b_Model_sayTried 55 = .ok (.aload_n 0, 1) := by decide +kernel
theorem d_Model_sayTried_56 : decode b_Model_sayTried 56 = .ok (.bipush 48, 2) := by decide +kernel
theorem d_Model_sayTried_58 : decode b_Model_sayTried 58 = .ok (.aload_n 0, 1) := by decide +kernel
theorem d_Model_sayTried_59 : decode b_Model_sayTried 59 = .ok (.getfield 38, 3) := by decide +kernel
theorem d_Model_sayTried_62 : decode b_Model_sayTried 62 = .ok (.iload_n 3, 1) := by decide +kernel
theorem d_Model_sayTried_63 : decode b_Model_sayTried 63 = .ok (.iaload, 1) := by decide +kernel
theorem d_Model_sayTried_64 : decode b_Model_sayTried 64 = .ok (.iadd, 1) := by decide +kernel
theorem d_Model_sayTried_65 : decode b_Model_sayTried 65 = .ok (.invokevirtual 156, 3) := by decide +kernel
theorem d_Model_sayTried_68 : decode b_Model_sayTried 68 = .ok (.iinc 3 1, 3) := by decide +kernel
theorem d_Model_sayTried_71 : decode b_Model_sayTried 71 = .ok (.goto (-21), 3) := by decide +kernel
theorem d_Model_sayTried_74 : decode b_Model_sayTried 74 = .ok (.aload_n 0, 1) := by decide +kernel
theorem d_Model_sayTried_75 : decode b_Model_sayTried 75 = .ok (.bipush 101, 2) := by decide +kernel
theorem d_Model_sayTried_77 : decode b_Model_sayTried 77 = .ok (.invokevirtual 156, 3) := by decide +kernel
theorem d_Model_sayTried_80 : decode b_Model_sayTried 80 = .ok (.aload_n 0, 1) := by decide +kernel
theorem d_Model_sayTried_81 : decode b_Model_sayTried 81 = .ok (.getfield 176, 3) := by decide +kernel
theorem d_Model_sayTried_84 : decode b_Model_sayTried 84 = .ok (.ifCond .ge 9, 3) := by decide +kernel
theorem d_Model_sayTried_87 : decode b_Model_sayTried 87 = .ok (.aload_n 0, 1) := by decide +kernel
theorem d_Model_sayTried_88 : decode b_Model_sayTried 88 = .ok (.bipush 45, 2) := by decide +kernel
theorem d_Model_sayTried_90 : decode b_Model_sayTried 90 = .ok (.invokevirtual 156, 3) := by decide +kernel
theorem d_Model_sayTried_93 : decode b_Model_sayTried 93 = .ok (.aload_n 0, 1) := by decide +kernel
theorem d_Model_sayTried_94 : decode b_Model_sayTried 94 = .ok (.getfield 176, 3) := by decide +kernel
theorem d_Model_sayTried_97 : decode b_Model_sayTried 97 = .ok (.ifCond .ge 11, 3) := by decide +kernel
theorem d_Model_sayTried_100 : decode b_Model_sayTried 100 = .ok (.aload_n 0, 1) := by decide +kernel
theorem d_Model_sayTried_101 : decode b_Model_sayTried 101 = .ok (.getfield 176, 3) := by decide +kernel
theorem d_Model_sayTried_104 : decode b_Model_sayTried 104 = .ok (.ineg, 1) := by decide +kernel
theorem d_Model_sayTried_105 : decode b_Model_sayTried 105 = .ok (.goto 7, 3) := by decide +kernel
theorem d_Model_sayTried_108 : decode b_Model_sayTried 108 = .ok (.aload_n 0, 1) := by decide +kernel
theorem d_Model_sayTried_109 : decode b_Model_sayTried 109 = .ok (.getfield 176, 3) := by decide +kernel
theorem d_Model_sayTried_112 : decode b_Model_sayTried 112 = .ok (.istore_n 3, 1) := by decide +kernel
theorem d_Model_sayTried_113 : decode b_Model_sayTried 113 = .ok (.iload_n 3, 1) := by decide +kernel
theorem d_Model_sayTried_114 : decode b_Model_sayTried 114 = .ok (.bipush 9, 2) := by decide +kernel
theorem d_Model_sayTried_116 : decode b_Model_sayTried 116 = .ok (.if_icmp .le 14, 3) := by decide +kernel
theorem d_Model_sayTried_119 : decode b_Model_sayTried 119 = .ok (.aload_n 0, 1) := by decide +kernel
theorem d_Model_sayTried_120 : decode b_Model_sayTried 120 = .ok (.bipush 48, 2) := by decide +kernel
theorem d_Model_sayTried_122 : decode b_Model_sayTried 122 = .ok (.iload_n 3, 1) := by decide +kernel
theorem d_Model_sayTried_123 : decode b_Model_sayTried 123 = .ok (.bipush 10, 2) := by decide +kernel
theorem d_Model_sayTried_125 : decode b_Model_sayTried 125 = .ok (.idiv, 1) := by decide +kernel
theorem d_Model_sayTried_126 : decode b_Model_sayTried 126 = .ok (.iadd, 1) := by decide +kernel
theorem d_Model_sayTried_127 : decode b_Model_sayTried 127 = .ok (.invokevirtual 156, 3) := by decide +kernel
theorem d_Model_sayTried_130 : decode b_Model_sayTried 130 = .ok (.aload_n 0, 1) := by decide +kernel
theorem d_Model_sayTried_131 : decode b_Model_sayTried 131 = .ok (.bipush 48, 2) := by decide +kernel
theorem d_Model_sayTried_133 : decode b_Model_sayTried 133 = .ok (.iload_n 3, 1) := by decide +kernel
theorem d_Model_sayTried_134 : decode b_Model_sayTried 134 = .ok (.bipush 10, 2) := by decide +kernel
theorem d_Model_sayTried_136 : decode b_Model_sayTried 136 = .ok (.irem, 1) := by decide +kernel
theorem d_Model_sayTried_137 : decode b_Model_sayTried 137 = .ok (.iadd, 1) := by decide +kernel
theorem d_Model_sayTried_138 : decode b_Model_sayTried 138 = .ok (.invokevirtual 156, 3) := by decide +kernel
theorem d_Model_sayTried_141 : decode b_Model_sayTried 141 = .ok (.return_, 1) := by decide +kernel
theorem d_Model_shortest_0 : decode b_Model_shortest 0 = .ok (.aload_n 0, 1) := by decide +kernel
theorem d_Model_shortest_1 : decode b_Model_shortest 1 = .ok (.lload_n 1, 1) := by decide +kernel
theorem d_Model_shortest_2 : decode b_Model_shortest 2 = .ok (.invokevirtual 160, 3) := by decide +kernel
theorem d_Model_shortest_5 : decode b_Model_shortest 5 = .ok (.ifCond .ne 9, 3) := by decide +kernel
theorem d_Model_shortest_8 : decode b_Model_shortest 8 = .ok (.aload_n 0, 1) := by decide +kernel
theorem d_Model_shortest_9 : decode b_Model_shortest 9 = .ok (.iconst 1, 1) := by decide +kernel
theorem d_Model_shortest_10 : decode b_Model_shortest 10 = .ok (.invokevirtual 136, 3) := by decide +kernel
theorem d_Model_shortest_13 : decode b_Model_shortest 13 = .ok (.ireturn, 1) := by decide +kernel
theorem d_Model_shortest_14 : decode b_Model_shortest 14 = .ok (.aload_n 0, 1) := by decide +kernel
theorem d_Model_shortest_15 : decode b_Model_shortest 15 = .ok (.iconst 0, 1) := by decide +kernel
theorem d_Model_shortest_16 : decode b_Model_shortest 16 = .ok (.putfield 41, 3) := by decide +kernel
theorem d_Model_shortest_19 : decode b_Model_shortest 19 = .ok (.aload_n 0, 1) := by decide +kernel
theorem d_Model_shortest_20 : decode b_Model_shortest 20 = .ok (.lload_n 1, 1) := by decide +kernel
theorem d_Model_shortest_21 : decode b_Model_shortest 21 = .ok (.invokevirtual 163, 3) := by decide +kernel
theorem d_Model_shortest_24 : decode b_Model_shortest 24 = .ok (.ifCond .eq 8, 3) := by decide +kernel
theorem d_Model_shortest_27 : decode b_Model_shortest 27 = .ok (.aload_n 0, 1) := by decide +kernel
theorem d_Model_shortest_28 : decode b_Model_shortest 28 = .ok (.getfield 149, 3) := by decide +kernel
theorem d_Model_shortest_31 : decode b_Model_shortest 31 = .ok (.ireturn, 1) := by decide +kernel
theorem d_Model_shortest_32 : decode b_Model_shortest 32 = .ok (.aload_n 0, 1) := by decide +kernel
theorem d_Model_shortest_33 : decode b_Model_shortest 33 = .ok (.lload_n 1, 1) := by decide +kernel
theorem d_Model_shortest_34 : decode b_Model_shortest 34 = .ok (.invokevirtual 143, 3) := by decide +kernel
theorem d_Model_shortest_37 : decode b_Model_shortest 37 = .ok (.lstore_n 3, 1) := by decide +kernel
theorem d_Model_shortest_38 : decode b_Model_shortest 38 = .ok (.lload_n 3, 1) := by decide +kernel
theorem d_Model_shortest_39 : decode b_Model_shortest 39 = .ok (.lconst 0, 1) := by decide +kernel
theorem d_Model_shortest_40 : decode b_Model_shortest 40 = .ok (.lcmp, 1) := by decide +kernel
theorem d_Model_shortest_41 : decode b_Model_shortest 41 = .ok (.ifCond .ne 26, 3) := by decide +kernel
theorem d_Model_shortest_44 : decode b_Model_shortest 44 = .ok (.aload_n 0, 1) := by decide +kernel
theorem d_Model_shortest_45 : decode b_Model_shortest 45 = .ok (.bipush 48, 2) := by decide +kernel
theorem d_Model_shortest_47 : decode b_Model_shortest 47 = .ok (.invokevirtual 156, 3) := by decide +kernel
theorem d_Model_shortest_50 : decode b_Model_shortest 50 = .ok (.aload_n 0, 1) := by decide +kernel
theorem d_Model_shortest_51 : decode b_Model_shortest 51 = .ok (.bipush 101, 2) := by decide +kernel
theorem d_Model_shortest_53 : decode b_Model_shortest 53 = .ok (.invokevirtual 156, 3) := by decide +kernel
theorem d_Model_shortest_56 : decode b_Model_shortest 56 = .ok (.aload_n 0, 1) := by decide +kernel
theorem d_Model_shortest_57 : decode b_Model_shortest 57 = .ok (.bipush 48, 2) := by decide +kernel
theorem d_Model_shortest_59 : decode b_Model_shortest 59 = .ok (.invokevirtual 156, 3) := by decide +kernel
theorem d_Model_shortest_62 : decode b_Model_shortest 62 = .ok (.aload_n 0, 1) := by decide +kernel
theorem d_Model_shortest_63 : decode b_Model_shortest 63 = .ok (.getfield 149, 3) := by decide +kernel
theorem d_Model_shortest_66 : decode b_Model_shortest 66 = .ok (.ireturn, 1) := by decide +kernel
theorem d_Model_shortest_67 : decode b_Model_shortest 67 = .ok (.aload_n 0, 1) := by decide +kernel
theorem d_Model_shortest_68 : decode b_Model_shortest 68 = .ok (.lload_n 3, 1) := by decide +kernel
theorem d_Model_shortest_69 : decode b_Model_shortest 69 = .ok (.invokevirtual 166, 3) := by decide +kernel
theorem d_Model_shortest_72 : decode b_Model_shortest 72 = .ok (.aload_n 0, 1) := by decide +kernel
theorem d_Model_shortest_73 : decode b_Model_shortest 73 = .ok (.invokevirtual 179, 3) := by decide +kernel
theorem d_Model_shortest_76 : decode b_Model_shortest 76 = .ok (.iconst 1, 1) := by decide +kernel
theorem d_Model_shortest_77 : decode b_Model_shortest 77 = .ok (.istore 5, 2) := by decide +kernel
theorem d_Model_shortest_79 : decode b_Model_shortest 79 = .ok (.iload 5, 2) := by decide +kernel
theorem d_Model_shortest_81 : decode b_Model_shortest 81 = .ok (.bipush 100, 2) := by decide +kernel
theorem d_Model_shortest_83 : decode b_Model_shortest 83 = .ok (.if_icmp .ge 92, 3) := by decide +kernel
theorem d_Model_shortest_86 : decode b_Model_shortest 86 = .ok (.aload_n 0, 1) := by decide +kernel
theorem d_Model_shortest_87 : decode b_Model_shortest 87 = .ok (.iload 5, 2) := by decide +kernel
theorem d_Model_shortest_89 : decode b_Model_shortest 89 = .ok (.iconst 0, 1) := by decide +kernel
theorem d_Model_shortest_90 : decode b_Model_shortest 90 = .ok (.invokevirtual 182, 3) := by decide +kernel
theorem d_Model_shortest_93 : decode b_Model_shortest 93 = .ok (.aload_n 0, 1) := by decide +kernel
theorem d_Model_shortest_94 : decode b_Model_shortest 94 = .ok (.iload 5, 2) := by decide +kernel
theorem d_Model_shortest_96 : decode b_Model_shortest 96 = .ok (.lload_n 3, 1) := by decide +kernel
theorem d_Model_shortest_97 : decode b_Model_shortest 97 = .ok (.invokevirtual 186, 3) := by decide +kernel
theorem d_Model_shortest_100 : decode b_Model_shortest 100 = .ok (.istore 6, 2) := by decide +kernel
theorem d_Model_shortest_102 : decode b_Model_shortest 102 = .ok (.aload_n 0, 1) := by decide +kernel
theorem d_Model_shortest_103 : decode b_Model_shortest 103 = .ok (.iload 5, 2) := by decide +kernel
theorem d_Model_shortest_105 : decode b_Model_shortest 105 = .ok (.iconst 1, 1) := by decide +kernel
theorem d_Model_shortest_106 : decode b_Model_shortest 106 = .ok (.invokevirtual 182, 3) := by decide +kernel
theorem d_Model_shortest_109 : decode b_Model_shortest 109 = .ok (.aload_n 0, 1) := by decide +kernel
theorem d_Model_shortest_110 : decode b_Model_shortest 110 = .ok (.iload 5, 2) := by decide +kernel
theorem d_Model_shortest_112 : decode b_Model_shortest 112 = .ok (.lload_n 3, 1) := by decide +kernel
theorem d_Model_shortest_113 : decode b_Model_shortest 113 = .ok (.invokevirtual 186, 3) := by decide +kernel
theorem d_Model_shortest_116 : decode b_Model_shortest 116 = .ok (.istore 7, 2) := by decide +kernel
theorem d_Model_shortest_118 : decode b_Model_shortest 118 = .ok (.iload 6, 2) := by decide +kernel
theorem d_Model_shortest_120 : decode b_Model_shortest 120 = .ok (.ifCond .ne 11, 3) := by decide +kernel
theorem d_Model_shortest_123 : decode b_Model_shortest 123 = .ok (.iload 7, 2) := by decide +kernel
theorem d_Model_shortest_125 : decode b_Model_shortest 125 = .ok (.ifCond .ne 6, 3) := by decide +kernel
theorem d_Model_shortest_128 : decode b_Model_shortest 128 = .ok (.goto 41, 3) := by decide +kernel
theorem d_Model_shortest_131 : decode b_Model_shortest 131 = .ok (.iload 6, 2) := by decide +kernel
theorem d_Model_shortest_133 : decode b_Model_shortest 133 = .ok (.ifCond .eq 25, 3) := by decide +kernel
theorem d_Model_shortest_136 : decode b_Model_shortest 136 = .ok (.iload 7, 2) := by decide +kernel
theorem d_Model_shortest_138 : decode b_Model_shortest 138 = .ok (.ifCond .eq 13, 3) := by decide +kernel
theorem d_Model_shortest_141 : decode b_Model_shortest 141 = .ok (.aload_n 0, 1) := by decide +kernel
theorem d_Model_shortest_142 : decode b_Model_shortest 142 = .ok (.iload 5, 2) := by decide +kernel
theorem d_Model_shortest_144 : decode b_Model_shortest 144 = .ok (.invokevirtual 190, 3) := by decide +kernel
theorem d_Model_shortest_147 : decode b_Model_shortest 147 = .ok (.iconst 1, 1) := by decide +kernel
theorem d_Model_shortest_148 : decode b_Model_shortest 148 = .ok (.if_icmp .ge 10, 3) := by decide +kernel
theorem d_Model_shortest_151 : decode b_Model_shortest 151 = .ok (.aload_n 0, 1) := by decide +kernel
theorem d_Model_shortest_152 : decode b_Model_shortest 152 = .ok (.iload 5, 2) := by decide +kernel
theorem d_Model_shortest_154 : decode b_Model_shortest 154 = .ok (.iconst 0, 1) := by decide +kernel
theorem d_Model_shortest_155 : decode b_Model_shortest 155 = .ok (.invokevirtual 182, 3) := by decide +kernel
theorem d_Model_shortest_158 : decode b_Model_shortest 158 = .ok (.aload_n 0, 1) := by decide +kernel
theorem d_Model_shortest_159 : decode b_Model_shortest 159 = .ok (.iload 5, 2) := by decide +kernel
theorem d_Model_shortest_161 : decode b_Model_shortest 161 = .ok (.invokevirtual 193, 3) := by decide +kernel
theorem d_Model_shortest_164 : decode b_Model_shortest 164 = .ok (.aload_n 0, 1) := by decide +kernel
theorem d_Model_shortest_165 : decode b_Model_shortest 165 = .ok (.getfield 149, 3) := by decide +kernel
theorem d_Model_shortest_168 : decode b_Model_shortest 168 = .ok (.ireturn, 1) := by decide +kernel
theorem d_Model_shortest_169 : decode b_Model_shortest 169 = .ok (.iinc 5 1, 3) := by decide +kernel
theorem d_Model_shortest_172 : decode b_Model_shortest 172 = .ok (.goto (-93), 3) := by decide +kernel
theorem d_Model_shortest_175 : decode b_Model_shortest 175 = .ok (.aload_n 0, 1) := by decide +kernel
theorem d_Model_shortest_176 : decode b_Model_shortest 176 = .ok (.getfield 149, 3) := by decide +kernel
theorem d_Model_shortest_179 : decode b_Model_shortest 179 = .ok (.ireturn, 1) := by decide +kernel
theorem d_Model_letter_0 : decode b_Model_letter 0 = .ok (.aload_n 0, 1) := by decide +kernel
theorem d_Model_letter_1 : decode b_Model_letter 1 = .ok (.iload_n 1, 1) := by decide +kernel
theorem d_Model_letter_2 : decode b_Model_letter 2 = .ok (.ifCond .lt 11, 3) := by decide +kernel
theorem d_Model_letter_5 : decode b_Model_letter 5 = .ok (.iload_n 1, 1) := by decide +kernel
theorem d_Model_letter_6 : decode b_Model_letter 6 = .ok (.aload_n 0, 1) := by decide +kernel
theorem d_Model_letter_7 : decode b_Model_letter 7 = .ok (.getfield 149, 3) := by decide +kernel
theorem d_Model_letter_10 : decode b_Model_letter 10 = .ok (.if_icmp .lt 7, 3) := by decide +kernel
theorem d_Model_letter_13 : decode b_Model_letter 13 = .ok (.iconst 1, 1) := by decide +kernel
theorem d_Model_letter_14 : decode b_Model_letter 14 = .ok (.goto 4, 3) := by decide +kernel
theorem d_Model_letter_17 : decode b_Model_letter 17 = .ok (.iconst 0, 1) := by decide +kernel
theorem d_Model_letter_18 : decode b_Model_letter 18 = .ok (.putfield 41, 3) := by decide +kernel
theorem d_Model_letter_21 : decode b_Model_letter 21 = .ok (.aload_n 0, 1) := by decide +kernel
theorem d_Model_letter_22 : decode b_Model_letter 22 = .ok (.getfield 41, 3) := by decide +kernel
theorem d_Model_letter_25 : decode b_Model_letter 25 = .ok (.ifCond .le 7, 3) := by decide +kernel
theorem d_Model_letter_28 : decode b_Model_letter 28 = .ok (.iconst 0, 1) := by decide +kernel
theorem d_Model_letter_29 : decode b_Model_letter 29 = .ok (.goto 9, 3) := by decide +kernel
theorem d_Model_letter_32 : decode b_Model_letter 32 = .ok (.aload_n 0, 1) := by decide +kernel
theorem d_Model_letter_33 : decode b_Model_letter 33 = .ok (.getfield 20, 3) := by decide +kernel
theorem d_Model_letter_36 : decode b_Model_letter 36 = .ok (.iload_n 1, 1) := by decide +kernel
theorem d_Model_letter_37 : decode b_Model_letter 37 = .ok (.iaload, 1) := by decide +kernel
theorem d_Model_letter_38 : decode b_Model_letter 38 = .ok (.ireturn, 1) := by decide +kernel
theorem d_Model_next_0 : decode b_Model_next 0 = .ok (.aload_n 0, 1) := by decide +kernel
theorem d_Model_next_1 : decode b_Model_next 1 = .ok (.iconst 0, 1) := by decide +kernel
theorem d_Model_next_2 : decode b_Model_next 2 = .ok (.putfield 41, 3) := by decide +kernel
theorem d_Model_next_5 : decode b_Model_next 5 = .ok (.aload_n 0, 1) := by decide +kernel
theorem d_Model_next_6 : decode b_Model_next 6 = .ok (.lload_n 1, 1) := by decide +kernel
theorem d_Model_next_7 : decode b_Model_next 7 = .ok (.invokevirtual 160, 3) := by decide +kernel
theorem d_Model_next_10 : decode b_Model_next 10 = .ok (.ifCond .eq 16, 3) := by decide +kernel
theorem d_Model_next_13 : decode b_Model_next 13 = .ok (.aload_n 0, 1) := by decide +kernel
theorem d_Model_next_14 : decode b_Model_next 14 = .ok (.lload_n 1, 1) := by decide +kernel
theorem d_Model_next_15 : decode b_Model_next 15 = .ok (.invokevirtual 143, 3) := by decide +kernel
theorem d_Model_next_18 : decode b_Model_next 18 = .ok (.aload_n 0, 1) := by decide +kernel
theorem d_Model_next_19 : decode b_Model_next 19 = .ok (.invokevirtual 91, 3) := by decide +kernel
theorem d_Model_next_22 : decode b_Model_next 22 = .ok (.lcmp, 1) := by decide +kernel
theorem d_Model_next_23 : decode b_Model_next 23 = .ok (.ifCond .lt 7, 3) := by decide +kernel
theorem d_Model_next_26 : decode b_Model_next 26 = .ok (.ldc2_w 196, 3) := by decide +kernel
theorem d_Model_next_29 : decode b_Model_next 29 = .ok (.lreturn, 1) := by decide +kernel
theorem d_Model_next_30 : decode b_Model_next 30 = .ok (.aload_n 0, 1) := by decide +kernel
theorem d_Model_next_31 : decode b_Model_next 31 = .ok (.lload_n 1, 1) := by decide +kernel
theorem d_Model_next_32 : decode b_Model_next 32 = .ok (.invokevirtual 143, 3) := by decide +kernel
theorem d_Model_next_35 : decode b_Model_next 35 = .ok (.lstore 4, 2) := by decide +kernel
theorem d_Model_next_37 : decode b_Model_next 37 = .ok (.lload_n 1, 1) := by decide +kernel
theorem d_Model_next_38 : decode b_Model_next 38 = .ok (.lload 4, 2) := by decide +kernel
theorem d_Model_next_40 : decode b_Model_next 40 = .ok (.lsub, 1) := by decide +kernel
theorem d_Model_next_41 : decode b_Model_next 41 = .ok (.lstore 6, 2) := by decide +kernel
theorem d_Model_next_43 : decode b_Model_next 43 = .ok (.lconst 1, 1) := by decide +kernel
theorem d_Model_next_44 : decode b_Model_next 44 = .ok (.aload_n 0, 1) := by decide +kernel
theorem d_Model_next_45 : decode b_Model_next 45 = .ok (.getfield 7, 3) := by decide +kernel
theorem d_Model_next_48 : decode b_Model_next 48 = .ok (.aload_n 0, 1) := by decide +kernel
theorem d_Model_next_49 : decode b_Model_next 49 = .ok (.getfield 13, 3) := by decide +kernel
theorem d_Model_next_52 : decode b_Model_next 52 = .ok (.iadd, 1) := by decide +kernel
theorem d_Model_next_53 : decode b_Model_next 53 = .ok (.lshl, 1) := by decide +kernel
theorem d_Model_next_54 : decode b_Model_next 54 = .ok (.lstore 8, 2) := by decide +kernel
theorem d_Model_next_56 : decode b_Model_next 56 = .ok (.lload 4, 2) := by decide +kernel
theorem d_Model_next_58 : decode b_Model_next 58 = .ok (.lconst 0, 1) := by decide +kernel
theorem d_Model_next_59 : decode b_Model_next 59 = .ok (.lcmp, 1) := by decide +kernel
theorem d_Model_next_60 : decode b_Model_next 60 = .ok (.ifCond .ne 16, 3) := by decide +kernel
theorem d_Model_next_63 : decode b_Model_next 63 = .ok (.iload_n 3, 1) := by decide +kernel
theorem d_Model_next_64 : decode b_Model_next 64 = .ok (.ifCond .eq 7, 3) := by decide +kernel
theorem d_Model_next_67 : decode b_Model_next 67 = .ok (.lconst 1, 1) := by decide +kernel
theorem d_Model_next_68 : decode b_Model_next 68 = .ok (.goto 7, 3) := by decide +kernel
theorem d_Model_next_71 : decode b_Model_next 71 = .ok (.lload 8, 2) := by decide +kernel
theorem d_Model_next_73 : decode b_Model_next 73 = .ok (.lconst 1, 1) := by decide +kernel
theorem d_Model_next_74 : decode b_Model_next 74 = .ok (.ladd, 1) := by decide +kernel
theorem d_Model_next_75 : decode b_Model_next 75 = .ok (.lreturn, 1) := by decide +kernel
theorem d_Model_next_76 : decode b_Model_next 76 = .ok (.lload 6, 2) := by decide +kernel
theorem d_Model_next_78 : decode b_Model_next 78 = .ok (.lconst 0, 1) := by decide +kernel
theorem d_Model_next_79 : decode b_Model_next 79 = .ok (.lcmp, 1) := by decide +kernel
theorem d_Model_next_80 : decode b_Model_next 80 = .ok (.ifCond .ne 7, 3) := by decide +kernel
theorem d_Model_next_83 : decode b_Model_next 83 = .ok (.iconst 1, 1) := by decide +kernel
theorem d_Model_next_84 : decode b_Model_next 84 = .ok (.goto 4, 3) := by decide +kernel
theorem d_Model_next_87 : decode b_Model_next 87 = .ok (.iconst 0, 1) := by decide +kernel
theorem d_Model_next_88 : decode b_Model_next 88 = .ok (.iload_n 3, 1) := by decide +kernel
theorem d_Model_next_89 : decode b_Model_next 89 = .ok (.if_icmp .ne 9, 3) := by decide +kernel
theorem d_Model_next_92 : decode b_Model_next 92 = .ok (.lload_n 1, 1) := by decide +kernel
theorem d_Model_next_93 : decode b_Model_next 93 = .ok (.lconst 1, 1) := by decide +kernel
theorem d_Model_next_94 : decode b_Model_next 94 = .ok (.ladd, 1) := by decide +kernel
theorem d_Model_next_95 : decode b_Model_next 95 = .ok (.goto 6, 3) := by decide +kernel
theorem d_Model_next_98 : decode b_Model_next 98 = .ok (.lload_n 1, 1) := by decide +kernel
theorem d_Model_next_99 : decode b_Model_next 99 = .ok (.lconst 1, 1) := by decide +kernel
theorem d_Model_next_100 : decode b_Model_next 100 = .ok (.lsub, 1) := by decide +kernel
theorem d_Model_next_101 : decode b_Model_next 101 = .ok (.lreturn, 1) := by decide +kernel
theorem d_Law_read_0 : decode b_Law_read 0 = .ok (.aload_n 1, 1) := by decide +kernel
theorem d_Law_read_1 : decode b_Law_read 1 = .ok (.iconst 0, 1) := by decide +kernel
theorem d_Law_read_2 : decode b_Law_read 2 = .ok (.aload_n 0, 1) := by decide +kernel
theorem d_Law_read_3 : decode b_Law_read 3 = .ok (.invokevirtual 7, 3) := by decide +kernel
theorem d_Law_read_6 : decode b_Law_read 6 = .ok (.lastore, 1) := by decide +kernel
theorem d_Law_read_7 : decode b_Law_read 7 = .ok (.goto 6, 3) := by decide +kernel
theorem d_Law_read_10 : decode b_Law_read 10 = .ok (.astore_n 2, 1) := by decide +kernel
theorem d_Law_read_11 : decode b_Law_read 11 = .ok (.iconst 1, 1) := by decide +kernel
theorem d_Law_read_12 : decode b_Law_read 12 = .ok (.ireturn, 1) := by decide +kernel
theorem d_Law_read_13 : decode b_Law_read 13 = .ok (.iconst 0, 1) := by decide +kernel
theorem d_Law_read_14 : decode b_Law_read 14 = .ok (.ireturn, 1) := by decide +kernel
theorem d_Law_shortest_0 : decode b_Law_shortest 0 = .ok (.aload_n 3, 1) := by decide +kernel
theorem d_Law_shortest_1 : decode b_Law_shortest 1 = .ok (.iconst 0, 1) := by decide +kernel
theorem d_Law_shortest_2 : decode b_Law_shortest 2 = .ok (.aload_n 0, 1) := by decide +kernel
theorem d_Law_shortest_3 : decode b_Law_shortest 3 = .ok (.lload_n 1, 1) := by decide +kernel
theorem d_Law_shortest_4 : decode b_Law_shortest 4 = .ok (.invokevirtual 15, 3) := by decide +kernel
theorem d_Law_shortest_7 : decode b_Law_shortest 7 = .ok (.i2l, 1) := by decide +kernel
theorem d_Law_shortest_8 : decode b_Law_shortest 8 = .ok (.lastore, 1) := by decide +kernel
theorem d_Law_shortest_9 : decode b_Law_shortest 9 = .ok (.goto 7, 3) := by decide +kernel
theorem d_Law_shortest_12 : decode b_Law_shortest 12 = .ok (.astore 4, 2) := by decide +kernel
theorem d_Law_shortest_14 : decode b_Law_shortest 14 = .ok (.iconst 1, 1) := by decide +kernel
theorem d_Law_shortest_15 : decode b_Law_shortest 15 = .ok (.ireturn, 1) := by decide +kernel
theorem d_Law_shortest_16 : decode b_Law_shortest 16 = .ok (.iconst 0, 1) := by decide +kernel
theorem d_Law_shortest_17 : decode b_Law_shortest 17 = .ok (.ireturn, 1) := by decide +kernel
theorem d_Law_exact_0 : decode b_Law_exact 0 = .ok (.aload_n 3, 1) := by decide +kernel
theorem d_Law_exact_1 : decode b_Law_exact 1 = .ok (.iconst 0, 1) := by decide +kernel
theorem d_Law_exact_2 : decode b_Law_exact 2 = .ok (.aload_n 0, 1) := by decide +kernel
theorem d_Law_exact_3 : decode b_Law_exact 3 = .ok (.lload_n 1, 1) := by decide +kernel
theorem d_Law_exact_4 : decode b_Law_exact 4 = .ok (.invokevirtual 19, 3) := by decide +kernel
theorem d_Law_exact_7 : decode b_Law_exact 7 = .ok (.i2l, 1) := by decide +kernel
theorem d_Law_exact_8 : decode b_Law_exact 8 = .ok (.lastore, 1) := by decide +kernel
theorem d_Law_exact_9 : decode b_Law_exact 9 = .ok (.goto 7, 3) := by decide +kernel
theorem d_Law_exact_12 : decode b_Law_exact 12 = .ok (.astore 4, 2) := by decide +kernel
theorem d_Law_exact_14 : decode b_Law_exact 14 = .ok (.iconst 1, 1) := by decide +kernel
theorem d_Law_exact_15 : decode b_Law_exact 15 = .ok (.ireturn, 1) := by decide +kernel
theorem d_Law_exact_16 : decode b_Law_exact 16 = .ok (.iconst 0, 1) := by decide +kernel
theorem d_Law_exact_17 : decode b_Law_exact 17 = .ok (.ireturn, 1) := by decide +kernel
theorem d_Law_letter_0 : decode b_Law_letter 0 = .ok (.aload_n 2, 1) := by decide +kernel
theorem d_Law_letter_1 : decode b_Law_letter 1 = .ok (.iconst 0, 1) := by decide +kernel
theorem d_Law_letter_2 : decode b_Law_letter 2 = .ok (.aload_n 0, 1) := by decide +kernel
theorem d_Law_letter_3 : decode b_Law_letter 3 = .ok (.iload_n 1, 1) := by decide +kernel
theorem d_Law_letter_4 : decode b_Law_letter 4 = .ok (.invokevirtual 22, 3) := by decide +kernel
theorem d_Law_letter_7 : decode b_Law_letter 7 = .ok (.i2l, 1) := by decide +kernel
theorem d_Law_letter_8 : decode b_Law_letter 8 = .ok (.lastore, 1) := by decide +kernel
theorem d_Law_letter_9 : decode b_Law_letter 9 = .ok (.goto 6, 3) := by decide +kernel
theorem d_Law_letter_12 : decode b_Law_letter 12 = .ok (.astore_n 3, 1) := by decide +kernel
theorem d_Law_letter_13 : decode b_Law_letter 13 = .ok (.iconst 1, 1) := by decide +kernel
theorem d_Law_letter_14 : decode b_Law_letter 14 = .ok (.ireturn, 1) := by decide +kernel
theorem d_Law_letter_15 : decode b_Law_letter 15 = .ok (.iconst 0, 1) := by decide +kernel
theorem d_Law_letter_16 : decode b_Law_letter 16 = .ok (.ireturn, 1) := by decide +kernel
theorem d_Law_law_0 : decode b_Law_law 0 = .ok (.new 8, 3) := by decide +kernel
theorem d_Law_law_3 : decode b_Law_law 3 = .ok (.dup, 1) := by decide +kernel
theorem d_Law_law_4 : decode b_Law_law 4 = .ok (.invokespecial 28, 3) := by decide +kernel
theorem d_Law_law_7 : decode b_Law_law 7 = .ok (.astore_n 1, 1) := by decide +kernel
theorem d_Law_law_8 : decode b_Law_law 8 = .ok (.new 29, 3) := by decide +kernel
theorem d_Law_law_11 : decode b_Law_law 11 = .ok (.dup, 1) := by decide +kernel
theorem d_Law_law_12 : decode b_Law_law 12 = .ok (.invokespecial 31, 3) := by decide +kernel
theorem d_Law_law_15 : decode b_Law_law 15 = .ok (.astore_n 2, 1) := by decide +kernel
theorem d_Law_law_16 : decode b_Law_law 16 = .ok (.iconst 1, 1) := by decide +kernel
theorem d_Law_law_17 : decode b_Law_law 17 = .ok (.newarray .long, 2) := by decide +kernel
theorem d_Law_law_19 : decode b_Law_law 19 = .ok (.astore_n 3, 1) := by decide +kernel
theorem d_Law_law_20 : decode b_Law_law 20 = .ok (.iconst 0, 1) := by decide +kernel
theorem d_Law_law_21 : decode b_Law_law 21 = .ok (.istore 4, 2) := by decide +kernel
theorem d_Law_law_23 : decode b_Law_law 23 = .ok (.iload 4, 2) := by decide +kernel
theorem d_Law_law_25 : decode b_Law_law 25 = .ok (.aload_n 0, 1) := by decide +kernel
theorem d_Law_law_26 : decode b_Law_law 26 = .ok (.arraylength, 1) := by decide +kernel
theorem d_Law_law_27 : decode b_Law_law 27 = .ok (.iconst 4, 1) := by decide +kernel
theorem d_Law_law_28 : decode b_Law_law 28 = .ok (.isub, 1) := by decide +kernel
theorem d_Law_law_29 : decode b_Law_law 29 = .ok (.if_icmp .gt 515, 3) := by decide +kernel
theorem d_Law_law_32 : decode b_Law_law 32 = .ok (.aload_n 0, 1) := by decide +kernel
theorem d_Law_law_33 : decode b_Law_law 33 = .ok (.iload 4, 2) := by decide +kernel
theorem d_Law_law_35 : decode b_Law_law 35 = .ok (.iaload, 1) := by decide +kernel
theorem d_Law_law_36 : decode b_Law_law 36 = .ok (.bipush 15, 2) := by decide +kernel
theorem d_Law_law_38 : decode b_Law_law 38 = .ok (.iand, 1) := by decide +kernel
theorem d_Law_law_39 : decode b_Law_law 39 = .ok (.tableswitch 499 0 9 #[53, 90, 115, 184, 200, 213, 238, 298, 358, 414], 53) := by decide +kernel
theorem d_Law_law_92 : decode b_Law_law 92 = .ok (.aload_n 1, 1) := by decide +kernel
theorem d_Law_law_93 : decode b_Law_law 93 = .ok (.aload_n 0, 1) := by decide +kernel
theorem d_Law_law_94 : decode b_Law_law 94 = .ok (.iload 4, 2) := by decide +kernel
theorem d_Law_law_96 : decode b_Law_law 96 = .ok (.iconst 1, 1) := by decide +kernel
theorem d_Law_law_97 : decode b_Law_law 97 = .ok (.iadd, 1) := by decide +kernel
theorem d_Law_law_98 : decode b_Law_law 98 = .ok (.iaload, 1) := by decide +kernel
theorem d_Law_law_99 : decode b_Law_law 99 = .ok (.aload_n 0, 1) := by decide +kernel
theorem d_Law_law_100 : decode b_Law_law 100 = .ok (.iload 4, 2) := by decide +kernel
theorem d_Law_law_102 : decode b_Law_law 102 = .ok (.iconst 2, 1) := by decide +kernel
theorem d_Law_law_103 : decode b_Law_law 103 = .ok (.iadd, 1) := by decide +kernel
theorem d_Law_law_104 : decode b_Law_law 104 = .ok (.iaload, 1) := by decide +kernel
theorem d_Law_law_105 : decode b_Law_law 105 = .ok (.invokevirtual 32, 3) := by decide +kernel
theorem d_Law_law_108 : decode b_Law_law 108 = .ok (.pop, 1) := by decide +kernel
theorem d_Law_law_109 : decode b_Law_law 109 = .ok (.aload_n 2, 1) := by decide +kernel
theorem d_Law_law_110 : decode b_Law_law 110 = .ok (.aload_n 0, 1) := by decide +kernel
theorem d_Law_law_111 : decode b_Law_law 111 = .ok (.iload 4, 2) := by decide +kernel
theorem d_Law_law_113 : decode b_Law_law 113 = .ok (.iconst 1, 1) := by decide +kernel
theorem d_Law_law_114 : decode b_Law_law 114 = .ok (.iadd, 1) := by decide +kernel
theorem d_Law_law_115 : decode b_Law_law 115 = .ok (.iaload, 1) := by decide +kernel
theorem d_Law_law_116 : decode b_Law_law 116 = .ok (.aload_n 0, 1) := by decide +kernel
theorem d_Law_law_117 : decode b_Law_law 117 = .ok (.iload 4, 2) := by decide +kernel
theorem d_Law_law_119 : decode b_Law_law 119 = .ok (.iconst 2, 1) := by decide +kernel
theorem d_Law_law_120 : decode b_Law_law 120 = .ok (.iadd, 1) := by decide +kernel
theorem d_Law_law_121 : decode b_Law_law 121 = .ok (.iaload, 1) := by decide +kernel
theorem d_Law_law_122 : decode b_Law_law 122 = .ok (.invokevirtual 36, 3) := by decide +kernel
theorem d_Law_law_125 : decode b_Law_law 125 = .ok (.pop, 1) := by decide +kernel
theorem d_Law_law_126 : decode b_Law_law 126 = .ok (.goto 412, 3) := by decide +kernel
theorem d_Law_law_129 : decode b_Law_law 129 = .ok (.aload_n 1, 1) := by decide +kernel
theorem d_Law_law_130 : decode b_Law_law 130 = .ok (.aload_n 0, 1) := by decide +kernel
theorem d_Law_law_131 : decode b_Law_law 131 = .ok (.iload 4, 2) := by decide +kernel
theorem d_Law_law_133 : decode b_Law_law 133 = .ok (.iconst 1, 1) := by decide +kernel
theorem d_Law_law_134 : decode b_Law_law 134 = .ok (.iadd, 1) := by decide +kernel
theorem d_Law_law_135 : decode b_Law_law 135 = .ok (.iaload, 1) := by decide +kernel
theorem d_Law_law_136 : decode b_Law_law 136 = .ok (.invokevirtual 37, 3) := by decide +kernel
theorem d_Law_law_139 : decode b_Law_law 139 = .ok (.pop, 1) := by decide +kernel
theorem d_Law_law_140 : decode b_Law_law 140 = .ok (.aload_n 2, 1) := by decide +kernel
theorem d_Law_law_141 : decode b_Law_law 141 = .ok (.aload_n 0, 1) := by decide +kernel
theorem d_Law_law_142 : decode b_Law_law 142 = .ok (.iload 4, 2) := by decide +kernel
theorem d_Law_law_144 : decode b_Law_law 144 = .ok (.iconst 1, 1) := by decide +kernel
theorem d_Law_law_145 : decode b_Law_law 145 = .ok (.iadd, 1) := by decide +kernel
theorem d_Law_law_146 : decode b_Law_law 146 = .ok (.iaload, 1) := by decide +kernel
theorem d_Law_law_147 : decode b_Law_law 147 = .ok (.invokevirtual 41, 3) := by decide +kernel
theorem d_Law_law_150 : decode b_Law_law 150 = .ok (.pop, 1) := by decide +kernel
theorem d_Law_law_151 : decode b_Law_law 151 = .ok (.goto 387, 3) := by decide +kernel
theorem d_Law_law_154 : decode b_Law_law 154 = .ok (.aload_n 1, 1) := by decide +kernel
theorem d_Law_law_155 : decode b_Law_law 155 = .ok (.aload_n 0, 1) := by decide +kernel
theorem d_Law_law_156 : decode b_Law_law 156 = .ok (.iload 4, 2) := by decide +kernel
theorem d_Law_law_158 : decode b_Law_law 158 = .ok (.iconst 1, 1) := by decide +kernel
theorem d_Law_law_159 : decode b_Law_law 159 = .ok (.iadd, 1) := by decide +kernel
theorem d_Law_law_160 : decode b_Law_law 160 = .ok (.iaload, 1) := by decide +kernel
theorem d_Law_law_161 : decode b_Law_law 161 = .ok (.i2l, 1) := by decide +kernel
theorem d_Law_law_162 : decode b_Law_law 162 = .ok (.bipush 32, 2) := by decide +kernel
theorem d_Law_law_164 : decode b_Law_law 164 = .ok (.lshl, 1) := by decide +kernel
theorem d_Law_law_165 : decode b_Law_law 165 = .ok (.aload_n 0, 1) := by decide +kernel
theorem d_Law_law_166 : decode b_Law_law 166 = .ok (.iload 4, 2) := by decide +kernel
theorem d_Law_law_168 : decode b_Law_law 168 = .ok (.iconst 2, 1) := by decide +kernel
theorem d_Law_law_169 : decode b_Law_law 169 = .ok (.iadd, 1) := by decide +kernel
theorem d_Law_law_170 : decode b_Law_law 170 = .ok (.iaload, 1) := by decide +kernel
theorem d_Law_law_171 : decode b_Law_law 171 = .ok (.i2l, 1) := by decide +kernel
theorem d_Law_law_172 : decode b_Law_law 172 = .ok (.ldc2_w 42, 3) := by decide +kernel
theorem d_Law_law_175 : decode b_Law_law 175 = .ok (.land, 1) := by decide +kernel
theorem d_Law_law_176 : decode b_Law_law 176 = .ok (.lor, 1) := by decide +kernel
theorem d_Law_law_177 : decode b_Law_law 177 = .ok (.aload_n 0, 1) := by decide +kernel
theorem d_Law_law_178 : decode b_Law_law 178 = .ok (.iload 4, 2) := by decide +kernel
theorem d_Law_law_180 : decode b_Law_law 180 = .ok (.iconst 3, 1) := by decide +kernel
theorem d_Law_law_181 : decode b_Law_law 181 = .ok (.iadd, 1) := by decide +kernel
theorem d_Law_law_182 : decode b_Law_law 182 = .ok (.iaload, 1) := by decide +kernel
theorem d_Law_law_183 : decode b_Law_law 183 = .ok (.invokevirtual 44, 3) := by decide +kernel
theorem d_Law_law_186 : decode b_Law_law 186 = .ok (.pop, 1) := by decide +kernel
theorem d_Law_law_187 : decode b_Law_law 187 = .ok (.aload_n 2, 1) := by decide +kernel
theorem d_Law_law_188 : decode b_Law_law 188 = .ok (.aload_n 0, 1) := by decide +kernel
theorem d_Law_law_189 : decode b_Law_law 189 = .ok (.iload 4, 2) := by decide +kernel
theorem d_Law_law_191 : decode b_Law_law 191 = .ok (.iconst 1, 1) := by decide +kernel
theorem d_Law_law_192 : decode b_Law_law 192 = .ok (.iadd, 1) := by decide +kernel
theorem d_Law_law_193 : decode b_Law_law 193 = .ok (.iaload, 1) := by decide +kernel
theorem d_Law_law_194 : decode b_Law_law 194 = .ok (.i2l, 1) := by decide +kernel
theorem d_Law_law_195 : decode b_Law_law 195 = .ok (.bipush 32, 2) := by decide +kernel
theorem d_Law_law_197 : decode b_Law_law 197 = .ok (.lshl, 1) := by decide +kernel
theorem d_Law_law_198 : decode b_Law_law 198 = .ok (.aload_n 0, 1) := by decide +kernel
theorem d_Law_law_199 : decode b_Law_law 199 = .ok (.iload 4, 2) := by decide +kernel
theorem d_Law_law_201 : decode b_Law_law 201 = .ok (.iconst 2, 1) := by decide +kernel
theorem d_Law_law_202 : decode b_Law_law 202 = .ok (.iadd, 1) := by decide +kernel
theorem d_Law_law_203 : decode b_Law_law 203 = .ok (.iaload, 1) := by decide +kernel
theorem d_Law_law_204 : decode b_Law_law 204 = .ok (.i2l, 1) := by decide +kernel
theorem d_Law_law_205 : decode b_Law_law 205 = .ok (.ldc2_w 42, 3) := by decide +kernel
theorem d_Law_law_208 : decode b_Law_law 208 = .ok (.land, 1) := by decide +kernel
theorem d_Law_law_209 : decode b_Law_law 209 = .ok (.lor, 1) := by decide +kernel
theorem d_Law_law_210 : decode b_Law_law 210 = .ok (.aload_n 0, 1) := by decide +kernel
theorem d_Law_law_211 : decode b_Law_law 211 = .ok (.iload 4, 2) := by decide +kernel
theorem d_Law_law_213 : decode b_Law_law 213 = .ok (.iconst 3, 1) := by decide +kernel
theorem d_Law_law_214 : decode b_Law_law 214 = .ok (.iadd, 1) := by decide +kernel
theorem d_Law_law_215 : decode b_Law_law 215 = .ok (.iaload, 1) := by decide +kernel
theorem d_Law_law_216 : decode b_Law_law 216 = .ok (.invokevirtual 48, 3) := by decide +kernel
theorem d_Law_law_219 : decode b_Law_law 219 = .ok (.pop, 1) := by decide +kernel
theorem d_Law_law_220 : decode b_Law_law 220 = .ok (.goto 318, 3) := by decide +kernel
theorem d_Law_law_223 : decode b_Law_law 223 = .ok (.aload_n 1, 1) := by decide +kernel
theorem d_Law_law_224 : decode b_Law_law 224 = .ok (.aload_n 3, 1) := by decide +kernel
theorem d_Law_law_225 : decode b_Law_law 225 = .ok (.invokestatic 49, 3) := by decide +kernel
theorem d_Law_law_228 : decode b_Law_law 228 = .ok (.istore 5, 2) := by decide +kernel
theorem d_Law_law_230 : decode b_Law_law 230 = .ok (.aload_n 2, 1) := by decide +kernel
theorem d_Law_law_231 : decode b_Law_law 231 = .ok (.invokevirtual 54, 3) := by decide +kernel
theorem d_Law_law_234 : decode b_Law_law 234 = .ok (.lstore 6, 2) := by decide +kernel
theorem d_Law_law_236 : decode b_Law_law 236 = .ok (.goto 302, 3) := by decide +kernel
theorem d_Law_law_239 : decode b_Law_law 239 = .ok (.aload_n 1, 1) := by decide +kernel
