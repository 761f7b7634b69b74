theorem dX10_insert_39 : decode k_X10_insert.2.1 39 = .ok (.iload_n 3, 1) := by decide +kernel
theorem dX10_insert_40 : decode k_X10_insert.2.1 40 = .ok (.sipush 240, 3) := by decide +kernel
theorem dX10_insert_43 : decode k_X10_insert.2.1 43 = .ok (.if_icmp .ne 6, 3) := by decide +kernel
theorem dX10_insert_46 : decode k_X10_insert.2.1 46 = .ok (.bipush (-4), 2) := by decide +kernel
theorem dX10_insert_48 : decode k_X10_insert.2.1 48 = .ok (.ireturn, 1) := by decide +kernel
theorem dX10_insert_49 : decode k_X10_insert.2.1 49 = .ok (.aload_n 0, 1) := by decide +kernel
theorem dX10_insert_50 : decode k_X10_insert.2.1 50 = .ok (.invokevirtual 171, 3) := by decide +kernel
theorem dX10_insert_53 : decode k_X10_insert.2.1 53 = .ok (.aload_n 0, 1) := by decide +kernel
theorem dX10_insert_54 : decode k_X10_insert.2.1 54 = .ok (.iload_n 1, 1) := by decide +kernel
theorem dX10_insert_55 : decode k_X10_insert.2.1 55 = .ok (.invokevirtual 273, 3) := by decide +kernel
theorem dX10_insert_58 : decode k_X10_insert.2.1 58 = .ok (.istore 4, 2) := by decide +kernel
theorem dX10_insert_60 : decode k_X10_insert.2.1 60 = .ok (.aload_n 0, 1) := by decide +kernel
theorem dX10_insert_61 : decode k_X10_insert.2.1 61 = .ok (.invokevirtual 123, 3) := by decide +kernel
theorem dX10_insert_64 : decode k_X10_insert.2.1 64 = .ok (.istore 5, 2) := by decide +kernel
theorem dX10_insert_66 : decode k_X10_insert.2.1 66 = .ok (.iload 5, 2) := by decide +kernel
theorem dX10_insert_68 : decode k_X10_insert.2.1 68 = .ok (.iload 4, 2) := by decide +kernel
theorem dX10_insert_70 : decode k_X10_insert.2.1 70 = .ok (.if_icmp .le 29, 3) := by decide +kernel
theorem dX10_insert_73 : decode k_X10_insert.2.1 73 = .ok (.aload_n 0, 1) := by decide +kernel
theorem dX10_insert_74 : decode k_X10_insert.2.1 74 = .ok (.getfield 13, 3) := by decide +kernel
theorem dX10_insert_77 : decode k_X10_insert.2.1 77 = .ok (.iconst 1, 1) := by decide +kernel
theorem dX10_insert_78 : decode k_X10_insert.2.1 78 = .ok (.iload 5, 2) := by decide +kernel
theorem dX10_insert_80 : decode k_X10_insert.2.1 80 = .ok (.iadd, 1) := by decide +kernel
theorem dX10_insert_81 : decode k_X10_insert.2.1 81 = .ok (.aload_n 0, 1) := by decide +kernel
theorem dX10_insert_82 : decode k_X10_insert.2.1 82 = .ok (.getfield 13, 3) := by decide +kernel
theorem dX10_insert_85 : decode k_X10_insert.2.1 85 = .ok (.iconst 1, 1) := by decide +kernel
theorem dX10_insert_86 : decode k_X10_insert.2.1 86 = .ok (.iload 5, 2) := by decide +kernel
theorem dX10_insert_88 : decode k_X10_insert.2.1 88 = .ok (.iadd, 1) := by decide +kernel
theorem dX10_insert_89 : decode k_X10_insert.2.1 89 = .ok (.iconst 1, 1) := by decide +kernel
theorem dX10_insert_90 : decode k_X10_insert.2.1 90 = .ok (.isub, 1) := by decide +kernel
theorem dX10_insert_91 : decode k_X10_insert.2.1 91 = .ok (.iaload, 1) := by decide +kernel
theorem dX10_insert_92 : decode k_X10_insert.2.1 92 = .ok (.iastore, 1) := by decide +kernel
theorem dX10_insert_93 : decode k_X10_insert.2.1 93 = .ok (.iinc 5 (-1), 3) := by decide +kernel
theorem dX10_insert_96 : decode k_X10_insert.2.1 96 = .ok (.goto (-30), 3) := by decide +kernel
theorem dX10_insert_99 : decode k_X10_insert.2.1 99 = .ok (.aload_n 0, 1) := by decide +kernel
theorem dX10_insert_100 : decode k_X10_insert.2.1 100 = .ok (.getfield 13, 3) := by decide +kernel
theorem dX10_insert_103 : decode k_X10_insert.2.1 103 = .ok (.iconst 1, 1) := by decide +kernel
theorem dX10_insert_104 : decode k_X10_insert.2.1 104 = .ok (.iload 4, 2) := by decide +kernel
theorem dX10_insert_106 : decode k_X10_insert.2.1 106 = .ok (.iadd, 1) := by decide +kernel
theorem dX10_insert_107 : decode k_X10_insert.2.1 107 = .ok (.iload_n 2, 1) := by decide +kernel
theorem dX10_insert_108 : decode k_X10_insert.2.1 108 = .ok (.iastore, 1) := by decide +kernel
theorem dX10_insert_109 : decode k_X10_insert.2.1 109 = .ok (.aload_n 0, 1) := by decide +kernel
theorem dX10_insert_110 : decode k_X10_insert.2.1 110 = .ok (.getfield 13, 3) := by decide +kernel
theorem dX10_insert_113 : decode k_X10_insert.2.1 113 = .ok (.iconst 0, 1) := by decide +kernel
theorem dX10_insert_114 : decode k_X10_insert.2.1 114 = .ok (.dup2, 1) := by decide +kernel
theorem dX10_insert_115 : decode k_X10_insert.2.1 115 = .ok (.iaload, 1) := by decide +kernel
theorem dX10_insert_116 : decode k_X10_insert.2.1 116 = .ok (.iconst 1, 1) := by decide +kernel
theorem dX10_insert_117 : decode k_X10_insert.2.1 117 = .ok (.iadd, 1) := by decide +kernel
theorem dX10_insert_118 : decode k_X10_insert.2.1 118 = .ok (.iastore, 1) := by decide +kernel
theorem dX10_insert_119 : decode k_X10_insert.2.1 119 = .ok (.iload_n 3, 1) := by decide +kernel
theorem dX10_insert_120 : decode k_X10_insert.2.1 120 = .ok (.iconst 1, 1) := by decide +kernel
theorem dX10_insert_121 : decode k_X10_insert.2.1 121 = .ok (.iadd, 1) := by decide +kernel
theorem dX10_insert_122 : decode k_X10_insert.2.1 122 = .ok (.ireturn, 1) := by decide +kernel
theorem dX10_sign_0 : decode k_X10_sign.2.1 0 = .ok (.aload_n 0, 1) := by decide +kernel
theorem dX10_sign_1 : decode k_X10_sign.2.1 1 = .ok (.iconst 0, 1) := by decide +kernel
theorem dX10_sign_2 : decode k_X10_sign.2.1 2 = .ok (.putfield 1, 3) := by decide +kernel
theorem dX10_sign_5 : decode k_X10_sign.2.1 5 = .ok (.iload_n 1, 1) := by decide +kernel
theorem dX10_sign_6 : decode k_X10_sign.2.1 6 = .ok (.ifCond .ge 6, 3) := by decide +kernel
theorem dX10_sign_9 : decode k_X10_sign.2.1 9 = .ok (.bipush (-3), 2) := by decide +kernel
theorem dX10_sign_11 : decode k_X10_sign.2.1 11 = .ok (.ireturn, 1) := by decide +kernel
theorem dX10_sign_12 : decode k_X10_sign.2.1 12 = .ok (.iload_n 1, 1) := by decide +kernel
theorem dX10_sign_13 : decode k_X10_sign.2.1 13 = .ok (.aload_n 0, 1) := by decide +kernel
theorem dX10_sign_14 : decode k_X10_sign.2.1 14 = .ok (.invokevirtual 123, 3) := by decide +kernel
theorem dX10_sign_17 : decode k_X10_sign.2.1 17 = .ok (.if_icmp .ge 11, 3) := by decide +kernel
theorem dX10_sign_20 : decode k_X10_sign.2.1 20 = .ok (.aload_n 0, 1) := by decide +kernel
theorem dX10_sign_21 : decode k_X10_sign.2.1 21 = .ok (.iload_n 1, 1) := by decide +kernel
theorem dX10_sign_22 : decode k_X10_sign.2.1 22 = .ok (.invokevirtual 127, 3) := by decide +kernel
theorem dX10_sign_25 : decode k_X10_sign.2.1 25 = .ok (.goto 4, 3) := by decide +kernel
theorem dX10_sign_28 : decode k_X10_sign.2.1 28 = .ok (.iconst (-1), 1) := by decide +kernel
theorem dX10_sign_29 : decode k_X10_sign.2.1 29 = .ok (.ireturn, 1) := by decide +kernel
theorem dX10_rule_0 : decode k_X10_rule.2.1 0 = .ok (.aload_n 0, 1) := by decide +kernel
theorem dX10_rule_1 : decode k_X10_rule.2.1 1 = .ok (.iconst 0, 1) := by decide +kernel
theorem dX10_rule_2 : decode k_X10_rule.2.1 2 = .ok (.putfield 1, 3) := by decide +kernel
theorem dX10_rule_5 : decode k_X10_rule.2.1 5 = .ok (.aload_n 0, 1) := by decide +kernel
theorem dX10_rule_6 : decode k_X10_rule.2.1 6 = .ok (.iload_n 1, 1) := by decide +kernel
theorem dX10_rule_7 : decode k_X10_rule.2.1 7 = .ok (.invokevirtual 210, 3) := by decide +kernel
theorem dX10_rule_10 : decode k_X10_rule.2.1 10 = .ok (.ifCond .ne 6, 3) := by decide +kernel
theorem dX10_rule_13 : decode k_X10_rule.2.1 13 = .ok (.bipush (-2), 2) := by decide +kernel
theorem dX10_rule_15 : decode k_X10_rule.2.1 15 = .ok (.ireturn, 1) := by decide +kernel
theorem dX10_rule_16 : decode k_X10_rule.2.1 16 = .ok (.iload_n 2, 1) := by decide +kernel
theorem dX10_rule_17 : decode k_X10_rule.2.1 17 = .ok (.i2l, 1) := by decide +kernel
theorem dX10_rule_18 : decode k_X10_rule.2.1 18 = .ok (.ldc2_w 276, 3) := by decide +kernel
theorem dX10_rule_21 : decode k_X10_rule.2.1 21 = .ok (.ldc2_w 278, 3) := by decide +kernel
theorem dX10_rule_24 : decode k_X10_rule.2.1 24 = .ok (.invokestatic 98, 3) := by decide +kernel
theorem dX10_rule_27 : decode k_X10_rule.2.1 27 = .ok (.ifCond .eq 29, 3) := by decide +kernel
theorem dX10_rule_30 : decode k_X10_rule.2.1 30 = .ok (.iload_n 2, 1) := by decide +kernel
theorem dX10_rule_31 : decode k_X10_rule.2.1 31 = .ok (.bipush 10, 2) := by decide +kernel
theorem dX10_rule_33 : decode k_X10_rule.2.1 33 = .ok (.isub, 1) := by decide +kernel
theorem dX10_rule_34 : decode k_X10_rule.2.1 34 = .ok (.aload_n 0, 1) := by decide +kernel
theorem dX10_rule_35 : decode k_X10_rule.2.1 35 = .ok (.iload_n 1, 1) := by decide +kernel
theorem dX10_rule_36 : decode k_X10_rule.2.1 36 = .ok (.invokevirtual 106, 3) := by decide +kernel
theorem dX10_rule_39 : decode k_X10_rule.2.1 39 = .ok (.if_icmp .ge 15, 3) := by decide +kernel
theorem dX10_rule_42 : decode k_X10_rule.2.1 42 = .ok (.aload_n 0, 1) := by decide +kernel
theorem dX10_rule_43 : decode k_X10_rule.2.1 43 = .ok (.iload_n 1, 1) := by decide +kernel
theorem dX10_rule_44 : decode k_X10_rule.2.1 44 = .ok (.iload_n 2, 1) := by decide +kernel
theorem dX10_rule_45 : decode k_X10_rule.2.1 45 = .ok (.bipush 10, 2) := by decide +kernel
theorem dX10_rule_47 : decode k_X10_rule.2.1 47 = .ok (.isub, 1) := by decide +kernel
theorem dX10_rule_48 : decode k_X10_rule.2.1 48 = .ok (.invokevirtual 113, 3) := by decide +kernel
theorem dX10_rule_51 : decode k_X10_rule.2.1 51 = .ok (.goto 4, 3) := by decide +kernel
theorem dX10_rule_54 : decode k_X10_rule.2.1 54 = .ok (.iconst (-1), 1) := by decide +kernel
theorem dX10_rule_55 : decode k_X10_rule.2.1 55 = .ok (.ireturn, 1) := by decide +kernel
theorem dX10_rule_56 : decode k_X10_rule.2.1 56 = .ok (.aload_n 0, 1) := by decide +kernel
theorem dX10_rule_57 : decode k_X10_rule.2.1 57 = .ok (.invokevirtual 134, 3) := by decide +kernel
theorem dX10_rule_60 : decode k_X10_rule.2.1 60 = .ok (.iload_n 2, 1) := by decide +kernel
theorem dX10_rule_61 : decode k_X10_rule.2.1 61 = .ok (.tableswitch 87 0 5 #[39, 45, 52, 59, 65, 71], 39) := by decide +kernel
theorem dX10_rule_100 : decode k_X10_rule.2.1 100 = .ok (.aload_n 0, 1) := by decide +kernel
theorem dX10_rule_101 : decode k_X10_rule.2.1 101 = .ok (.iload_n 1, 1) := by decide +kernel
theorem dX10_rule_102 : decode k_X10_rule.2.1 102 = .ok (.invokevirtual 106, 3) := by decide +kernel
theorem dX10_rule_105 : decode k_X10_rule.2.1 105 = .ok (.ireturn, 1) := by decide +kernel
theorem dX10_rule_106 : decode k_X10_rule.2.1 106 = .ok (.aload_n 0, 1) := by decide +kernel
theorem dX10_rule_107 : decode k_X10_rule.2.1 107 = .ok (.getfield 30, 3) := by decide +kernel
theorem dX10_rule_110 : decode k_X10_rule.2.1 110 = .ok (.iload_n 1, 1) := by decide +kernel
theorem dX10_rule_111 : decode k_X10_rule.2.1 111 = .ok (.iaload, 1) := by decide +kernel
theorem dX10_rule_112 : decode k_X10_rule.2.1 112 = .ok (.ireturn, 1) := by decide +kernel
theorem dX10_rule_113 : decode k_X10_rule.2.1 113 = .ok (.aload_n 0, 1) := by decide +kernel
theorem dX10_rule_114 : decode k_X10_rule.2.1 114 = .ok (.getfield 33, 3) := by decide +kernel
theorem dX10_rule_117 : decode k_X10_rule.2.1 117 = .ok (.iload_n 1, 1) := by decide +kernel
theorem dX10_rule_118 : decode k_X10_rule.2.1 118 = .ok (.iaload, 1) := by decide +kernel
theorem dX10_rule_119 : decode k_X10_rule.2.1 119 = .ok (.ireturn, 1) := by decide +kernel
theorem dX10_rule_120 : decode k_X10_rule.2.1 120 = .ok (.aload_n 0, 1) := by decide +kernel
theorem dX10_rule_121 : decode k_X10_rule.2.1 121 = .ok (.iload_n 1, 1) := by decide +kernel
theorem dX10_rule_122 : decode k_X10_rule.2.1 122 = .ok (.invokevirtual 267, 3) := by decide +kernel
theorem dX10_rule_125 : decode k_X10_rule.2.1 125 = .ok (.ireturn, 1) := by decide +kernel
theorem dX10_rule_126 : decode k_X10_rule.2.1 126 = .ok (.aload_n 0, 1) := by decide +kernel
theorem dX10_rule_127 : decode k_X10_rule.2.1 127 = .ok (.iload_n 1, 1) := by decide +kernel
theorem dX10_rule_128 : decode k_X10_rule.2.1 128 = .ok (.invokevirtual 192, 3) := by decide +kernel
theorem dX10_rule_131 : decode k_X10_rule.2.1 131 = .ok (.ireturn, 1) := by decide +kernel
theorem dX10_rule_132 : decode k_X10_rule.2.1 132 = .ok (.aload_n 0, 1) := by decide +kernel
theorem dX10_rule_133 : decode k_X10_rule.2.1 133 = .ok (.iconst 0, 1) := by decide +kernel
theorem dX10_rule_134 : decode k_X10_rule.2.1 134 = .ok (.putfield 120, 3) := by decide +kernel
theorem dX10_rule_137 : decode k_X10_rule.2.1 137 = .ok (.aload_n 0, 1) := by decide +kernel
theorem dX10_rule_138 : decode k_X10_rule.2.1 138 = .ok (.iload_n 1, 1) := by decide +kernel
theorem dX10_rule_139 : decode k_X10_rule.2.1 139 = .ok (.iconst 0, 1) := by decide +kernel
theorem dX10_rule_140 : decode k_X10_rule.2.1 140 = .ok (.invokevirtual 130, 3) := by decide +kernel
theorem dX10_rule_143 : decode k_X10_rule.2.1 143 = .ok (.aload_n 0, 1) := by decide +kernel
theorem dX10_rule_144 : decode k_X10_rule.2.1 144 = .ok (.invokevirtual 227, 3) := by decide +kernel
theorem dX10_rule_147 : decode k_X10_rule.2.1 147 = .ok (.ireturn, 1) := by decide +kernel
theorem dX10_rule_148 : decode k_X10_rule.2.1 148 = .ok (.bipush (-2), 2) := by decide +kernel
theorem dX10_rule_150 : decode k_X10_rule.2.1 150 = .ok (.ireturn, 1) := by decide +kernel
theorem dX10_word_0 : decode k_X10_word.2.1 0 = .ok (.aload_n 0, 1) := by decide +kernel
theorem dX10_word_1 : decode k_X10_word.2.1 1 = .ok (.iconst 0, 1) := by decide +kernel
theorem dX10_word_2 : decode k_X10_word.2.1 2 = .ok (.putfield 1, 3) := by decide +kernel
theorem dX10_word_5 : decode k_X10_word.2.1 5 = .ok (.aload_n 0, 1) := by decide +kernel
theorem dX10_word_6 : decode k_X10_word.2.1 6 = .ok (.iload_n 1, 1) := by decide +kernel
theorem dX10_word_7 : decode k_X10_word.2.1 7 = .ok (.invokevirtual 210, 3) := by decide +kernel
theorem dX10_word_10 : decode k_X10_word.2.1 10 = .ok (.ifCond .ne 6, 3) := by decide +kernel
theorem dX10_word_13 : decode k_X10_word.2.1 13 = .ok (.bipush (-2), 2) := by decide +kernel
theorem dX10_word_15 : decode k_X10_word.2.1 15 = .ok (.ireturn, 1) := by decide +kernel
theorem dX10_word_16 : decode k_X10_word.2.1 16 = .ok (.iload_n 2, 1) := by decide +kernel
theorem dX10_word_17 : decode k_X10_word.2.1 17 = .ok (.ifCond .ge 6, 3) := by decide +kernel
theorem dX10_word_20 : decode k_X10_word.2.1 20 = .ok (.bipush (-3), 2) := by decide +kernel
theorem dX10_word_22 : decode k_X10_word.2.1 22 = .ok (.ireturn, 1) := by decide +kernel
theorem dX10_word_23 : decode k_X10_word.2.1 23 = .ok (.aload_n 0, 1) := by decide +kernel
theorem dX10_word_24 : decode k_X10_word.2.1 24 = .ok (.iconst 0, 1) := by decide +kernel
theorem dX10_word_25 : decode k_X10_word.2.1 25 = .ok (.putfield 120, 3) := by decide +kernel
theorem dX10_word_28 : decode k_X10_word.2.1 28 = .ok (.aload_n 0, 1) := by decide +kernel
theorem dX10_word_29 : decode k_X10_word.2.1 29 = .ok (.iload_n 1, 1) := by decide +kernel
theorem dX10_word_30 : decode k_X10_word.2.1 30 = .ok (.iconst 0, 1) := by decide +kernel
theorem dX10_word_31 : decode k_X10_word.2.1 31 = .ok (.invokevirtual 130, 3) := by decide +kernel
theorem dX10_word_34 : decode k_X10_word.2.1 34 = .ok (.iload_n 2, 1) := by decide +kernel
theorem dX10_word_35 : decode k_X10_word.2.1 35 = .ok (.aload_n 0, 1) := by decide +kernel
theorem dX10_word_36 : decode k_X10_word.2.1 36 = .ok (.getfield 120, 3) := by decide +kernel
theorem dX10_word_39 : decode k_X10_word.2.1 39 = .ok (.if_icmp .ge 12, 3) := by decide +kernel
theorem dX10_word_42 : decode k_X10_word.2.1 42 = .ok (.aload_n 0, 1) := by decide +kernel
theorem dX10_word_43 : decode k_X10_word.2.1 43 = .ok (.getfield 36, 3) := by decide +kernel
theorem dX10_word_46 : decode k_X10_word.2.1 46 = .ok (.iload_n 2, 1) := by decide +kernel
theorem dX10_word_47 : decode k_X10_word.2.1 47 = .ok (.iaload, 1) := by decide +kernel
theorem dX10_word_48 : decode k_X10_word.2.1 48 = .ok (.goto 4, 3) := by decide +kernel
theorem dX10_word_51 : decode k_X10_word.2.1 51 = .ok (.iconst (-1), 1) := by decide +kernel
theorem dX10_word_52 : decode k_X10_word.2.1 52 = .ok (.ireturn, 1) := by decide +kernel
theorem dX10_pairs_0 : decode k_X10_pairs.2.1 0 = .ok (.aload_n 0, 1) := by decide +kernel
theorem dX10_pairs_1 : decode k_X10_pairs.2.1 1 = .ok (.iconst 0, 1) := by decide +kernel
theorem dX10_pairs_2 : decode k_X10_pairs.2.1 2 = .ok (.putfield 1, 3) := by decide +kernel
theorem dX10_pairs_5 : decode k_X10_pairs.2.1 5 = .ok (.aload_n 0, 1) := by decide +kernel
theorem dX10_pairs_6 : decode k_X10_pairs.2.1 6 = .ok (.iload_n 1, 1) := by decide +kernel
theorem dX10_pairs_7 : decode k_X10_pairs.2.1 7 = .ok (.invokevirtual 210, 3) := by decide +kernel
theorem dX10_pairs_10 : decode k_X10_pairs.2.1 10 = .ok (.ifCond .eq 20, 3) := by decide +kernel
theorem dX10_pairs_13 : decode k_X10_pairs.2.1 13 = .ok (.aload_n 0, 1) := by decide +kernel
theorem dX10_pairs_14 : decode k_X10_pairs.2.1 14 = .ok (.iload_n 2, 1) := by decide +kernel
theorem dX10_pairs_15 : decode k_X10_pairs.2.1 15 = .ok (.invokevirtual 210, 3) := by decide +kernel
theorem dX10_pairs_18 : decode k_X10_pairs.2.1 18 = .ok (.ifCond .eq 12, 3) := by decide +kernel
theorem dX10_pairs_21 : decode k_X10_pairs.2.1 21 = .ok (.aload_n 0, 1) := by decide +kernel
theorem dX10_pairs_22 : decode k_X10_pairs.2.1 22 = .ok (.iload_n 1, 1) := by decide +kernel
theorem dX10_pairs_23 : decode k_X10_pairs.2.1 23 = .ok (.iload_n 2, 1) := by decide +kernel
theorem dX10_pairs_24 : decode k_X10_pairs.2.1 24 = .ok (.invokevirtual 249, 3) := by decide +kernel
theorem dX10_pairs_27 : decode k_X10_pairs.2.1 27 = .ok (.goto 5, 3) := by decide +kernel
theorem dX10_pairs_30 : decode k_X10_pairs.2.1 30 = .ok (.bipush (-2), 2) := by decide +kernel
theorem dX10_pairs_32 : decode k_X10_pairs.2.1 32 = .ok (.ireturn, 1) := by decide +kernel
theorem dX10_pick_0 : decode k_X10_pick.2.1 0 = .ok (.aload_n 0, 1) := by decide +kernel
theorem dX10_pick_1 : decode k_X10_pick.2.1 1 = .ok (.iconst 0, 1) := by decide +kernel
theorem dX10_pick_2 : decode k_X10_pick.2.1 2 = .ok (.putfield 1, 3) := by decide +kernel
theorem dX10_pick_5 : decode k_X10_pick.2.1 5 = .ok (.iload_n 1, 1) := by decide +kernel
theorem dX10_pick_6 : decode k_X10_pick.2.1 6 = .ok (.ifCond .ge 6, 3) := by decide +kernel
theorem dX10_pick_9 : decode k_X10_pick.2.1 9 = .ok (.bipush (-3), 2) := by decide +kernel
theorem dX10_pick_11 : decode k_X10_pick.2.1 11 = .ok (.ireturn, 1) := by decide +kernel
theorem dX10_pick_12 : decode k_X10_pick.2.1 12 = .ok (.aload_n 0, 1) := by decide +kernel
theorem dX10_pick_13 : decode k_X10_pick.2.1 13 = .ok (.invokevirtual 236, 3) := by decide +kernel
theorem dX10_pick_16 : decode k_X10_pick.2.1 16 = .ok (.istore_n 2, 1) := by decide +kernel
theorem dX10_pick_17 : decode k_X10_pick.2.1 17 = .ok (.iconst 0, 1) := by decide +kernel
theorem dX10_pick_18 : decode k_X10_pick.2.1 18 = .ok (.istore_n 3, 1) := by decide +kernel
theorem dX10_pick_19 : decode k_X10_pick.2.1 19 = .ok (.sipush 240, 3) := by decide +kernel
theorem dX10_pick_22 : decode k_X10_pick.2.1 22 = .ok (.istore 4, 2) := by decide +kernel
theorem dX10_pick_24 : decode k_X10_pick.2.1 24 = .ok (.iload 4, 2) := by decide +kernel
theorem dX10_pick_26 : decode k_X10_pick.2.1 26 = .ok (.iconst 1, 1) := by decide +kernel
theorem dX10_pick_27 : decode k_X10_pick.2.1 27 = .ok (.if_icmp .le 64, 3) := by decide +kernel
theorem dX10_pick_30 : decode k_X10_pick.2.1 30 = .ok (.iconst 0, 1) := by decide +kernel
theorem dX10_pick_31 : decode k_X10_pick.2.1 31 = .ok (.istore 5, 2) := by decide +kernel
theorem dX10_pick_33 : decode k_X10_pick.2.1 33 = .ok (.iload 5, 2) := by decide +kernel
theorem dX10_pick_35 : decode k_X10_pick.2.1 35 = .ok (.sipush 7396, 3) := by decide +kernel
theorem dX10_pick_38 : decode k_X10_pick.2.1 38 = .ok (.if_icmp .ge 47, 3) := by decide +kernel
theorem dX10_pick_41 : decode k_X10_pick.2.1 41 = .ok (.aload_n 0, 1) := by decide +kernel
theorem dX10_pick_42 : decode k_X10_pick.2.1 42 = .ok (.getfield 76, 3) := by decide +kernel
theorem dX10_pick_45 : decode k_X10_pick.2.1 45 = .ok (.iload 5, 2) := by decide +kernel
theorem dX10_pick_47 : decode k_X10_pick.2.1 47 = .ok (.iaload, 1) := by decide +kernel
theorem dX10_pick_48 : decode k_X10_pick.2.1 48 = .ok (.iload 4, 2) := by decide +kernel
theorem dX10_pick_50 : decode k_X10_pick.2.1 50 = .ok (.if_icmp .eq 6, 3) := by decide +kernel
theorem dX10_pick_53 : decode k_X10_pick.2.1 53 = .ok (.goto 26, 3) := by decide +kernel
theorem dX10_pick_56 : decode k_X10_pick.2.1 56 = .ok (.iload_n 3, 1) := by decide +kernel
theorem dX10_pick_57 : decode k_X10_pick.2.1 57 = .ok (.iload_n 1, 1) := by decide +kernel
theorem dX10_pick_58 : decode k_X10_pick.2.1 58 = .ok (.if_icmp .ne 18, 3) := by decide +kernel
theorem dX10_pick_61 : decode k_X10_pick.2.1 61 = .ok (.bipush 100, 2) := by decide +kernel
theorem dX10_pick_63 : decode k_X10_pick.2.1 63 = .ok (.iload 5, 2) := by decide +kernel
theorem dX10_pick_65 : decode k_X10_pick.2.1 65 = .ok (.bipush 86, 2) := by decide +kernel
theorem dX10_pick_67 : decode k_X10_pick.2.1 67 = .ok (.idiv, 1) := by decide +kernel
theorem dX10_pick_68 : decode k_X10_pick.2.1 68 = .ok (.imul, 1) := by decide +kernel
theorem dX10_pick_69 : decode k_X10_pick.2.1 69 = .ok (.iload 5, 2) := by decide +kernel
theorem dX10_pick_71 : decode k_X10_pick.2.1 71 = .ok (.bipush 86, 2) := by decide +kernel
theorem dX10_pick_73 : decode k_X10_pick.2.1 73 = .ok (.irem, 1) := by decide +kernel
theorem dX10_pick_74 : decode k_X10_pick.2.1 74 = .ok (.iadd, 1) := by decide +kernel
theorem dX10_pick_75 : decode k_X10_pick.2.1 75 = .ok (.ireturn, 1) := by decide +kernel
theorem dX10_pick_76 : decode k_X10_pick.2.1 76 = .ok (.iinc 3 1, 3) := by decide +kernel
theorem dX10_pick_79 : decode k_X10_pick.2.1 79 = .ok (.iinc 5 1, 3) := by decide +kernel
theorem dX10_pick_82 : decode k_X10_pick.2.1 82 = .ok (.goto (-49), 3) := by decide +kernel
theorem dX10_pick_85 : decode k_X10_pick.2.1 85 = .ok (.iinc 4 (-1), 3) := by decide +kernel
theorem dX10_pick_88 : decode k_X10_pick.2.1 88 = .ok (.goto (-64), 3) := by decide +kernel
theorem dX10_pick_91 : decode k_X10_pick.2.1 91 = .ok (.iconst (-1), 1) := by decide +kernel
theorem dX10_pick_92 : decode k_X10_pick.2.1 92 = .ok (.ireturn, 1) := by decide +kernel
theorem dX10_at_0 : decode k_X10_at.2.1 0 = .ok (.aload_n 0, 1) := by decide +kernel
theorem dX10_at_1 : decode k_X10_at.2.1 1 = .ok (.iconst 0, 1) := by decide +kernel
theorem dX10_at_2 : decode k_X10_at.2.1 2 = .ok (.putfield 1, 3) := by decide +kernel
theorem dX10_at_5 : decode k_X10_at.2.1 5 = .ok (.iload_n 1, 1) := by decide +kernel
theorem dX10_at_6 : decode k_X10_at.2.1 6 = .ok (.ifCond .ge 6, 3) := by decide +kernel
theorem dX10_at_9 : decode k_X10_at.2.1 9 = .ok (.bipush (-3), 2) := by decide +kernel
theorem dX10_at_11 : decode k_X10_at.2.1 11 = .ok (.ireturn, 1) := by decide +kernel
theorem dX10_at_12 : decode k_X10_at.2.1 12 = .ok (.aload_n 0, 1) := by decide +kernel
theorem dX10_at_13 : decode k_X10_at.2.1 13 = .ok (.invokevirtual 224, 3) := by decide +kernel
theorem dX10_at_16 : decode k_X10_at.2.1 16 = .ok (.iload_n 1, 1) := by decide +kernel
theorem dX10_at_17 : decode k_X10_at.2.1 17 = .ok (.aload_n 0, 1) := by decide +kernel
theorem dX10_at_18 : decode k_X10_at.2.1 18 = .ok (.getfield 120, 3) := by decide +kernel
theorem dX10_at_21 : decode k_X10_at.2.1 21 = .ok (.if_icmp .ge 12, 3) := by decide +kernel
theorem dX10_at_24 : decode k_X10_at.2.1 24 = .ok (.aload_n 0, 1) := by decide +kernel
theorem dX10_at_25 : decode k_X10_at.2.1 25 = .ok (.getfield 36, 3) := by decide +kernel
theorem dX10_at_28 : decode k_X10_at.2.1 28 = .ok (.iload_n 1, 1) := by decide +kernel
theorem dX10_at_29 : decode k_X10_at.2.1 29 = .ok (.iaload, 1) := by decide +kernel
theorem dX10_at_30 : decode k_X10_at.2.1 30 = .ok (.goto 4, 3) := by decide +kernel
theorem dX10_at_33 : decode k_X10_at.2.1 33 = .ok (.iconst (-1), 1) := by decide +kernel
theorem dX10_at_34 : decode k_X10_at.2.1 34 = .ok (.ireturn, 1) := by decide +kernel
theorem dX10_seeks_0 : decode k_X10_seeks.2.1 0 = .ok (.aload_n 0, 1) := by decide +kernel
theorem dX10_seeks_1 : decode k_X10_seeks.2.1 1 = .ok (.invokevirtual 134, 3) := by decide +kernel
theorem dX10_seeks_4 : decode k_X10_seeks.2.1 4 = .ok (.aload_n 0, 1) := by decide +kernel
theorem dX10_seeks_5 : decode k_X10_seeks.2.1 5 = .ok (.iconst 0, 1) := by decide +kernel
theorem dX10_seeks_6 : decode k_X10_seeks.2.1 6 = .ok (.putfield 280, 3) := by decide +kernel
theorem dX10_seeks_9 : decode k_X10_seeks.2.1 9 = .ok (.aload_n 0, 1) := by decide +kernel
theorem dX10_seeks_10 : decode k_X10_seeks.2.1 10 = .ok (.iconst 0, 1) := by decide +kernel
theorem dX10_seeks_11 : decode k_X10_seeks.2.1 11 = .ok (.putfield 283, 3) := by decide +kernel
theorem dX10_seeks_14 : decode k_X10_seeks.2.1 14 = .ok (.aload_n 0, 1) := by decide +kernel
theorem dX10_seeks_15 : decode k_X10_seeks.2.1 15 = .ok (.getfield 280, 3) := by decide +kernel
theorem dX10_seeks_18 : decode k_X10_seeks.2.1 18 = .ok (.aload_n 0, 1) := by decide +kernel
theorem dX10_seeks_19 : decode k_X10_seeks.2.1 19 = .ok (.invokevirtual 123, 3) := by decide +kernel
theorem dX10_seeks_22 : decode k_X10_seeks.2.1 22 = .ok (.if_icmp .ge 60, 3) := by decide +kernel
theorem dX10_seeks_25 : decode k_X10_seeks.2.1 25 = .ok (.aload_n 0, 1) := by decide +kernel
theorem dX10_seeks_26 : decode k_X10_seeks.2.1 26 = .ok (.getfield 283, 3) := by decide +kernel
theorem dX10_seeks_29 : decode k_X10_seeks.2.1 29 = .ok (.aload_n 0, 1) := by decide +kernel
theorem dX10_seeks_30 : decode k_X10_seeks.2.1 30 = .ok (.getfield 30, 3) := by decide +kernel
theorem dX10_seeks_33 : decode k_X10_seeks.2.1 33 = .ok (.aload_n 0, 1) := by decide +kernel
theorem dX10_seeks_34 : decode k_X10_seeks.2.1 34 = .ok (.aload_n 0, 1) := by decide +kernel
theorem dX10_seeks_35 : decode k_X10_seeks.2.1 35 = .ok (.getfield 280, 3) := by decide +kernel
theorem dX10_seeks_38 : decode k_X10_seeks.2.1 38 = .ok (.invokevirtual 127, 3) := by decide +kernel
theorem dX10_seeks_41 : decode k_X10_seeks.2.1 41 = .ok (.iaload, 1) := by decide +kernel
theorem dX10_seeks_42 : decode k_X10_seeks.2.1 42 = .ok (.iadd, 1) := by decide +kernel
theorem dX10_seeks_43 : decode k_X10_seeks.2.1 43 = .ok (.iload_n 1, 1) := by decide +kernel
theorem dX10_seeks_44 : decode k_X10_seeks.2.1 44 = .ok (.if_icmp .gt 38, 3) := by decide +kernel
theorem dX10_seeks_47 : decode k_X10_seeks.2.1 47 = .ok (.aload_n 0, 1) := by decide +kernel
theorem dX10_seeks_48 : decode k_X10_seeks.2.1 48 = .ok (.dup, 1) := by decide +kernel
theorem dX10_seeks_49 : decode k_X10_seeks.2.1 49 = .ok (.getfield 283, 3) := by decide +kernel
theorem dX10_seeks_52 : decode k_X10_seeks.2.1 52 = .ok (.aload_n 0, 1) := by decide +kernel
theorem dX10_seeks_53 : decode k_X10_seeks.2.1 53 = .ok (.getfield 30, 3) := by decide +kernel
theorem dX10_seeks_56 : decode k_X10_seeks.2.1 56 = .ok (.aload_n 0, 1) := by decide +kernel
theorem dX10_seeks_57 : decode k_X10_seeks.2.1 57 = .ok (.aload_n 0, 1) := by decide +kernel
theorem dX10_seeks_58 : decode k_X10_seeks.2.1 58 = .ok (.getfield 280, 3) := by decide +kernel
theorem dX10_seeks_61 : decode k_X10_seeks.2.1 61 = .ok (.invokevirtual 127, 3) := by decide +kernel
theorem dX10_seeks_64 : decode k_X10_seeks.2.1 64 = .ok (.iaload, 1) := by decide +kernel
theorem dX10_seeks_65 : decode k_X10_seeks.2.1 65 = .ok (.iadd, 1) := by decide +kernel
theorem dX10_seeks_66 : decode k_X10_seeks.2.1 66 = .ok (.putfield 283, 3) := by decide +kernel
theorem dX10_seeks_69 : decode k_X10_seeks.2.1 69 = .ok (.aload_n 0, 1) := by decide +kernel
theorem dX10_seeks_70 : decode k_X10_seeks.2.1 70 = .ok (.dup, 1) := by decide +kernel
theorem dX10_seeks_71 : decode k_X10_seeks.2.1 71 = .ok (.getfield 280, 3) := by decide +kernel
theorem dX10_seeks_74 : decode k_X10_seeks.2.1 74 = .ok (.iconst 1, 1) := by decide +kernel
theorem dX10_seeks_75 : decode k_X10_seeks.2.1 75 = .ok (.iadd, 1) := by decide +kernel
theorem dX10_seeks_76 : decode k_X10_seeks.2.1 76 = .ok (.putfield 280, 3) := by decide +kernel
theorem dX10_seeks_79 : decode k_X10_seeks.2.1 79 = .ok (.goto (-65), 3) := by decide +kernel
theorem dX10_seeks_82 : decode k_X10_seeks.2.1 82 = .ok (.aload_n 0, 1) := by decide +kernel
theorem dX10_seeks_83 : decode k_X10_seeks.2.1 83 = .ok (.getfield 280, 3) := by decide +kernel
theorem dX10_seeks_86 : decode k_X10_seeks.2.1 86 = .ok (.aload_n 0, 1) := by decide +kernel
theorem dX10_seeks_87 : decode k_X10_seeks.2.1 87 = .ok (.invokevirtual 123, 3) := by decide +kernel
theorem dX10_seeks_90 : decode k_X10_seeks.2.1 90 = .ok (.if_icmp .ge 7, 3) := by decide +kernel
theorem dX10_seeks_93 : decode k_X10_seeks.2.1 93 = .ok (.iconst 1, 1) := by decide +kernel
theorem dX10_seeks_94 : decode k_X10_seeks.2.1 94 = .ok (.goto 4, 3) := by decide +kernel
theorem dX10_seeks_97 : decode k_X10_seeks.2.1 97 = .ok (.iconst 0, 1) := by decide +kernel
theorem dX10_seeks_98 : decode k_X10_seeks.2.1 98 = .ok (.ireturn, 1) := by decide +kernel
theorem dX10_within_0 : decode k_X10_within.2.1 0 = .ok (.aload_n 0, 1) := by decide +kernel
theorem dX10_within_1 : decode k_X10_within.2.1 1 = .ok (.iconst 0, 1) := by decide +kernel
theorem dX10_within_2 : decode k_X10_within.2.1 2 = .ok (.putfield 1, 3) := by decide +kernel
theorem dX10_within_5 : decode k_X10_within.2.1 5 = .ok (.iload_n 2, 1) := by decide +kernel
theorem dX10_within_6 : decode k_X10_within.2.1 6 = .ok (.i2l, 1) := by decide +kernel
theorem dX10_within_7 : decode k_X10_within.2.1 7 = .ok (.lconst 0, 1) := by decide +kernel
theorem dX10_within_8 : decode k_X10_within.2.1 8 = .ok (.ldc2_w 286, 3) := by decide +kernel
theorem dX10_within_11 : decode k_X10_within.2.1 11 = .ok (.invokestatic 98, 3) := by decide +kernel
theorem dX10_within_14 : decode k_X10_within.2.1 14 = .ok (.ifCond .ne 6, 3) := by decide +kernel
theorem dX10_within_17 : decode k_X10_within.2.1 17 = .ok (.bipush (-2), 2) := by decide +kernel
theorem dX10_within_19 : decode k_X10_within.2.1 19 = .ok (.ireturn, 1) := by decide +kernel
theorem dX10_within_20 : decode k_X10_within.2.1 20 = .ok (.iload_n 1, 1) := by decide +kernel
theorem dX10_within_21 : decode k_X10_within.2.1 21 = .ok (.ifCond .ge 6, 3) := by decide +kernel
theorem dX10_within_24 : decode k_X10_within.2.1 24 = .ok (.bipush (-3), 2) := by decide +kernel
theorem dX10_within_26 : decode k_X10_within.2.1 26 = .ok (.ireturn, 1) := by decide +kernel
theorem dX10_within_27 : decode k_X10_within.2.1 27 = .ok (.aload_n 0, 1) := by decide +kernel
theorem dX10_within_28 : decode k_X10_within.2.1 28 = .ok (.iload_n 1, 1) := by decide +kernel
theorem dX10_within_29 : decode k_X10_within.2.1 29 = .ok (.invokevirtual 288, 3) := by decide +kernel
theorem dX10_within_32 : decode k_X10_within.2.1 32 = .ok (.ifCond .ne 5, 3) := by decide +kernel
theorem dX10_within_35 : decode k_X10_within.2.1 35 = .ok (.iconst (-1), 1) := by decide +kernel
theorem dX10_within_36 : decode k_X10_within.2.1 36 = .ok (.ireturn, 1) := by decide +kernel
theorem dX10_within_37 : decode k_X10_within.2.1 37 = .ok (.aload_n 0, 1) := by decide +kernel
theorem dX10_within_38 : decode k_X10_within.2.1 38 = .ok (.invokevirtual 224, 3) := by decide +kernel
theorem dX10_within_41 : decode k_X10_within.2.1 41 = .ok (.iload_n 2, 1) := by decide +kernel
theorem dX10_within_42 : decode k_X10_within.2.1 42 = .ok (.ifCond .ne 10, 3) := by decide +kernel
theorem dX10_within_45 : decode k_X10_within.2.1 45 = .ok (.aload_n 0, 1) := by decide +kernel
theorem dX10_within_46 : decode k_X10_within.2.1 46 = .ok (.getfield 280, 3) := by decide +kernel
theorem dX10_within_49 : decode k_X10_within.2.1 49 = .ok (.goto 21, 3) := by decide +kernel
theorem dX10_within_52 : decode k_X10_within.2.1 52 = .ok (.iload_n 2, 1) := by decide +kernel
theorem dX10_within_53 : decode k_X10_within.2.1 53 = .ok (.iconst 1, 1) := by decide +kernel
theorem dX10_within_54 : decode k_X10_within.2.1 54 = .ok (.if_icmp .ne 10, 3) := by decide +kernel
theorem dX10_within_57 : decode k_X10_within.2.1 57 = .ok (.aload_n 0, 1) := by decide +kernel
theorem dX10_within_58 : decode k_X10_within.2.1 58 = .ok (.getfield 283, 3) := by decide +kernel
theorem dX10_within_61 : decode k_X10_within.2.1 61 = .ok (.goto 9, 3) := by decide +kernel
theorem dX10_within_64 : decode k_X10_within.2.1 64 = .ok (.aload_n 0, 1) := by decide +kernel
theorem dX10_within_65 : decode k_X10_within.2.1 65 = .ok (.getfield 39, 3) := by decide +kernel
theorem dX10_within_68 : decode k_X10_within.2.1 68 = .ok (.iload_n 1, 1) := by decide +kernel
theorem dX10_within_69 : decode k_X10_within.2.1 69 = .ok (.iaload, 1) := by decide +kernel
theorem dX10_within_70 : decode k_X10_within.2.1 70 = .ok (.ireturn, 1) := by decide +kernel
theorem dX10_way_0 : decode k_X10_way.2.1 0 = .ok (.aload_n 0, 1) := by decide +kernel
theorem dX10_way_1 : decode k_X10_way.2.1 1 = .ok (.iconst 0, 1) := by decide +kernel
theorem dX10_way_2 : decode k_X10_way.2.1 2 = .ok (.putfield 1, 3) := by decide +kernel
theorem dX10_way_5 : decode k_X10_way.2.1 5 = .ok (.iload_n 1, 1) := by decide +kernel
theorem dX10_way_6 : decode k_X10_way.2.1 6 = .ok (.ifCond .lt 7, 3) := by decide +kernel
theorem dX10_way_9 : decode k_X10_way.2.1 9 = .ok (.iload_n 2, 1) := by decide +kernel
theorem dX10_way_10 : decode k_X10_way.2.1 10 = .ok (.ifCond .ge 6, 3) := by decide +kernel
theorem dX10_way_13 : decode k_X10_way.2.1 13 = .ok (.bipush (-3), 2) := by decide +kernel
theorem dX10_way_15 : decode k_X10_way.2.1 15 = .ok (.ireturn, 1) := by decide +kernel
theorem dX10_way_16 : decode k_X10_way.2.1 16 = .ok (.aload_n 0, 1) := by decide +kernel
theorem dX10_way_17 : decode k_X10_way.2.1 17 = .ok (.iload_n 1, 1) := by decide +kernel
theorem dX10_way_18 : decode k_X10_way.2.1 18 = .ok (.invokevirtual 288, 3) := by decide +kernel
theorem dX10_way_21 : decode k_X10_way.2.1 21 = .ok (.ifCond .ne 5, 3) := by decide +kernel
theorem dX10_way_24 : decode k_X10_way.2.1 24 = .ok (.iconst (-1), 1) := by decide +kernel
theorem dX10_way_25 : decode k_X10_way.2.1 25 = .ok (.ireturn, 1) := by decide +kernel
theorem dX10_way_26 : decode k_X10_way.2.1 26 = .ok (.aload_n 0, 1) := by decide +kernel
theorem dX10_way_27 : decode k_X10_way.2.1 27 = .ok (.aload_n 0, 1) := by decide +kernel
theorem dX10_way_28 : decode k_X10_way.2.1 28 = .ok (.getfield 280, 3) := by decide +kernel
theorem dX10_way_31 : decode k_X10_way.2.1 31 = .ok (.invokevirtual 127, 3) := by decide +kernel
theorem dX10_way_34 : decode k_X10_way.2.1 34 = .ok (.istore_n 3, 1) := by decide +kernel
theorem dX10_way_35 : decode k_X10_way.2.1 35 = .ok (.iload_n 1, 1) := by decide +kernel
theorem dX10_way_36 : decode k_X10_way.2.1 36 = .ok (.aload_n 0, 1) := by decide +kernel
theorem dX10_way_37 : decode k_X10_way.2.1 37 = .ok (.getfield 283, 3) := by decide +kernel
theorem dX10_way_40 : decode k_X10_way.2.1 40 = .ok (.isub, 1) := by decide +kernel
theorem dX10_way_41 : decode k_X10_way.2.1 41 = .ok (.istore 4, 2) := by decide +kernel
theorem dX10_way_43 : decode k_X10_way.2.1 43 = .ok (.iconst 0, 1) := by decide +kernel
theorem dX10_way_44 : decode k_X10_way.2.1 44 = .ok (.istore 5, 2) := by decide +kernel
theorem dX10_way_46 : decode k_X10_way.2.1 46 = .ok (.iload 5, 2) := by decide +kernel
theorem dX10_way_48 : decode k_X10_way.2.1 48 = .ok (.iload_n 2, 1) := by decide +kernel
theorem dX10_way_49 : decode k_X10_way.2.1 49 = .ok (.if_icmp .ge 68, 3) := by decide +kernel
theorem dX10_way_52 : decode k_X10_way.2.1 52 = .ok (.iload_n 3, 1) := by decide +kernel
theorem dX10_way_53 : decode k_X10_way.2.1 53 = .ok (.bipush 26, 2) := by decide +kernel
theorem dX10_way_55 : decode k_X10_way.2.1 55 = .ok (.if_icmp .ge 5, 3) := by decide +kernel
theorem dX10_way_58 : decode k_X10_way.2.1 58 = .ok (.iconst (-1), 1) := by decide +kernel
theorem dX10_way_59 : decode k_X10_way.2.1 59 = .ok (.ireturn, 1) := by decide +kernel
theorem dX10_way_60 : decode k_X10_way.2.1 60 = .ok (.iconst 0, 1) := by decide +kernel
theorem dX10_way_61 : decode k_X10_way.2.1 61 = .ok (.istore 6, 2) := by decide +kernel
theorem dX10_way_63 : decode k_X10_way.2.1 63 = .ok (.iload 4, 2) := by decide +kernel
theorem dX10_way_65 : decode k_X10_way.2.1 65 = .ok (.aload_n 0, 1) := by decide +kernel
theorem dX10_way_66 : decode k_X10_way.2.1 66 = .ok (.getfield 30, 3) := by decide +kernel
theorem dX10_way_69 : decode k_X10_way.2.1 69 = .ok (.aload_n 0, 1) := by decide +kernel
theorem dX10_way_70 : decode k_X10_way.2.1 70 = .ok (.iload_n 3, 1) := by decide +kernel
theorem dX10_way_71 : decode k_X10_way.2.1 71 = .ok (.iload 6, 2) := by decide +kernel
theorem dX10_way_73 : decode k_X10_way.2.1 73 = .ok (.invokevirtual 113, 3) := by decide +kernel
theorem dX10_way_76 : decode k_X10_way.2.1 76 = .ok (.iaload, 1) := by decide +kernel
theorem dX10_way_77 : decode k_X10_way.2.1 77 = .ok (.if_icmp .lt 26, 3) := by decide +kernel
theorem dX10_way_80 : decode k_X10_way.2.1 80 = .ok (.iload 4, 2) := by decide +kernel
theorem dX10_way_82 : decode k_X10_way.2.1 82 = .ok (.aload_n 0, 1) := by decide +kernel
theorem dX10_way_83 : decode k_X10_way.2.1 83 = .ok (.getfield 30, 3) := by decide +kernel
theorem dX10_way_86 : decode k_X10_way.2.1 86 = .ok (.aload_n 0, 1) := by decide +kernel
theorem dX10_way_87 : decode k_X10_way.2.1 87 = .ok (.iload_n 3, 1) := by decide +kernel
theorem dX10_way_88 : decode k_X10_way.2.1 88 = .ok (.iload 6, 2) := by decide +kernel
theorem dX10_way_90 : decode k_X10_way.2.1 90 = .ok (.invokevirtual 113, 3) := by decide +kernel
theorem dX10_way_93 : decode k_X10_way.2.1 93 = .ok (.iaload, 1) := by decide +kernel
theorem dX10_way_94 : decode k_X10_way.2.1 94 = .ok (.isub, 1) := by decide +kernel
theorem dX10_way_95 : decode k_X10_way.2.1 95 = .ok (.istore 4, 2) := by decide +kernel
theorem dX10_way_97 : decode k_X10_way.2.1 97 = .ok (.iinc 6 1, 3) := by decide +kernel
theorem dX10_way_100 : decode k_X10_way.2.1 100 = .ok (.goto (-37), 3) := by decide +kernel
theorem dX10_way_103 : decode k_X10_way.2.1 103 = .ok (.aload_n 0, 1) := by decide +kernel
theorem dX10_way_104 : decode k_X10_way.2.1 104 = .ok (.iload_n 3, 1) := by decide +kernel
theorem dX10_way_105 : decode k_X10_way.2.1 105 = .ok (.iload 6, 2) := by decide +kernel
theorem dX10_way_107 : decode k_X10_way.2.1 107 = .ok (.invokevirtual 113, 3) := by decide +kernel
theorem dX10_way_110 : decode k_X10_way.2.1 110 = .ok (.istore_n 3, 1) := by decide +kernel
theorem dX10_way_111 : decode k_X10_way.2.1 111 = .ok (.iinc 5 1, 3) := by decide +kernel
theorem dX10_way_114 : decode k_X10_way.2.1 114 = .ok (.goto (-68), 3) := by decide +kernel
theorem dX10_way_117 : decode k_X10_way.2.1 117 = .ok (.iload_n 3, 1) := by decide +kernel
theorem dX10_way_118 : decode k_X10_way.2.1 118 = .ok (.ireturn, 1) := by decide +kernel
theorem dX10_ahead_0 : decode k_X10_ahead.2.1 0 = .ok (.aload_n 0, 1) := by decide +kernel
theorem dX10_ahead_1 : decode k_X10_ahead.2.1 1 = .ok (.iconst 0, 1) := by decide +kernel
theorem dX10_ahead_2 : decode k_X10_ahead.2.1 2 = .ok (.putfield 1, 3) := by decide +kernel
theorem dX10_ahead_5 : decode k_X10_ahead.2.1 5 = .ok (.iload_n 1, 1) := by decide +kernel
theorem dX10_ahead_6 : decode k_X10_ahead.2.1 6 = .ok (.i2l, 1) := by decide +kernel
theorem dX10_ahead_7 : decode k_X10_ahead.2.1 7 = .ok (.lconst 0, 1) := by decide +kernel
theorem dX10_ahead_8 : decode k_X10_ahead.2.1 8 = .ok (.ldc2_w 96, 3) := by decide +kernel
theorem dX10_ahead_11 : decode k_X10_ahead.2.1 11 = .ok (.invokestatic 98, 3) := by decide +kernel
theorem dX10_ahead_14 : decode k_X10_ahead.2.1 14 = .ok (.ifCond .ne 6, 3) := by decide +kernel
theorem dX10_ahead_17 : decode k_X10_ahead.2.1 17 = .ok (.bipush (-2), 2) := by decide +kernel
theorem dX10_ahead_19 : decode k_X10_ahead.2.1 19 = .ok (.ireturn, 1) := by decide +kernel
theorem dX10_ahead_20 : decode k_X10_ahead.2.1 20 = .ok (.aload_n 0, 1) := by decide +kernel
theorem dX10_ahead_21 : decode k_X10_ahead.2.1 21 = .ok (.invokevirtual 224, 3) := by decide +kernel
theorem dX10_ahead_24 : decode k_X10_ahead.2.1 24 = .ok (.iload_n 2, 1) := by decide +kernel
theorem dX10_ahead_25 : decode k_X10_ahead.2.1 25 = .ok (.i2l, 1) := by decide +kernel
theorem dX10_ahead_26 : decode k_X10_ahead.2.1 26 = .ok (.lconst 0, 1) := by decide +kernel
theorem dX10_ahead_27 : decode k_X10_ahead.2.1 27 = .ok (.aload_n 0, 1) := by decide +kernel
theorem dX10_ahead_28 : decode k_X10_ahead.2.1 28 = .ok (.getfield 120, 3) := by decide +kernel
theorem dX10_ahead_31 : decode k_X10_ahead.2.1 31 = .ok (.i2l, 1) := by decide +kernel
theorem dX10_ahead_32 : decode k_X10_ahead.2.1 32 = .ok (.invokestatic 98, 3) := by decide +kernel
theorem dX10_ahead_35 : decode k_X10_ahead.2.1 35 = .ok (.ifCond .ne 6, 3) := by decide +kernel
theorem dX10_ahead_38 : decode k_X10_ahead.2.1 38 = .ok (.bipush (-5), 2) := by decide +kernel
theorem dX10_ahead_40 : decode k_X10_ahead.2.1 40 = .ok (.ireturn, 1) := by decide +kernel
theorem dX10_ahead_41 : decode k_X10_ahead.2.1 41 = .ok (.iconst 0, 1) := by decide +kernel
theorem dX10_ahead_42 : decode k_X10_ahead.2.1 42 = .ok (.istore_n 3, 1) := by decide +kernel
theorem dX10_ahead_43 : decode k_X10_ahead.2.1 43 = .ok (.iconst 0, 1) := by decide +kernel
theorem dX10_ahead_44 : decode k_X10_ahead.2.1 44 = .ok (.istore 4, 2) := by decide +kernel
theorem dX10_ahead_46 : decode k_X10_ahead.2.1 46 = .ok (.iload 4, 2) := by decide +kernel
theorem dX10_ahead_48 : decode k_X10_ahead.2.1 48 = .ok (.iload_n 2, 1) := by decide +kernel
theorem dX10_ahead_49 : decode k_X10_ahead.2.1 49 = .ok (.if_icmp .ge 28, 3) := by decide +kernel
theorem dX10_ahead_52 : decode k_X10_ahead.2.1 52 = .ok (.iload_n 3, 1) := by decide +kernel
theorem dX10_ahead_53 : decode k_X10_ahead.2.1 53 = .ok (.aload_n 0, 1) := by decide +kernel
theorem dX10_ahead_54 : decode k_X10_ahead.2.1 54 = .ok (.getfield 36, 3) := by decide +kernel
theorem dX10_ahead_57 : decode k_X10_ahead.2.1 57 = .ok (.iload 4, 2) := by decide +kernel
theorem dX10_ahead_59 : decode k_X10_ahead.2.1 59 = .ok (.iaload, 1) := by decide +kernel
theorem dX10_ahead_60 : decode k_X10_ahead.2.1 60 = .ok (.iload_n 1, 1) := by decide +kernel
theorem dX10_ahead_61 : decode k_X10_ahead.2.1 61 = .ok (.if_icmp .ne 7, 3) := by decide +kernel
theorem dX10_ahead_64 : decode k_X10_ahead.2.1 64 = .ok (.iconst 1, 1) := by decide +kernel
theorem dX10_ahead_65 : decode k_X10_ahead.2.1 65 = .ok (.goto 4, 3) := by decide +kernel
theorem dX10_ahead_68 : decode k_X10_ahead.2.1 68 = .ok (.iconst 0, 1) := by decide +kernel
theorem dX10_ahead_69 : decode k_X10_ahead.2.1 69 = .ok (.iadd, 1) := by decide +kernel
theorem dX10_ahead_70 : decode k_X10_ahead.2.1 70 = .ok (.istore_n 3, 1) := by decide +kernel
theorem dX10_ahead_71 : decode k_X10_ahead.2.1 71 = .ok (.iinc 4 1, 3) := by decide +kernel
theorem dX10_ahead_74 : decode k_X10_ahead.2.1 74 = .ok (.goto (-28), 3) := by decide +kernel
theorem dX10_ahead_77 : decode k_X10_ahead.2.1 77 = .ok (.iload_n 3, 1) := by decide +kernel
theorem dX10_ahead_78 : decode k_X10_ahead.2.1 78 = .ok (.ireturn, 1) := by decide +kernel
theorem dX10_where_0 : decode k_X10_where.2.1 0 = .ok (.aload_n 0, 1) := by decide +kernel
theorem dX10_where_1 : decode k_X10_where.2.1 1 = .ok (.iconst 0, 1) := by decide +kernel
theorem dX10_where_2 : decode k_X10_where.2.1 2 = .ok (.putfield 1, 3) := by decide +kernel
theorem dX10_where_5 : decode k_X10_where.2.1 5 = .ok (.iload_n 1, 1) := by decide +kernel
theorem dX10_where_6 : decode k_X10_where.2.1 6 = .ok (.i2l, 1) := by decide +kernel
theorem dX10_where_7 : decode k_X10_where.2.1 7 = .ok (.lconst 0, 1) := by decide +kernel
theorem dX10_where_8 : decode k_X10_where.2.1 8 = .ok (.ldc2_w 96, 3) := by decide +kernel
theorem dX10_where_11 : decode k_X10_where.2.1 11 = .ok (.invokestatic 98, 3) := by decide +kernel
theorem dX10_where_14 : decode k_X10_where.2.1 14 = .ok (.ifCond .ne 6, 3) := by decide +kernel
theorem dX10_where_17 : decode k_X10_where.2.1 17 = .ok (.bipush (-2), 2) := by decide +kernel
theorem dX10_where_19 : decode k_X10_where.2.1 19 = .ok (.ireturn, 1) := by decide +kernel
theorem dX10_where_20 : decode k_X10_where.2.1 20 = .ok (.iload_n 2, 1) := by decide +kernel
theorem dX10_where_21 : decode k_X10_where.2.1 21 = .ok (.ifCond .ge 6, 3) := by decide +kernel
theorem dX10_where_24 : decode k_X10_where.2.1 24 = .ok (.bipush (-3), 2) := by decide +kernel
theorem dX10_where_26 : decode k_X10_where.2.1 26 = .ok (.ireturn, 1) := by decide +kernel
theorem dX10_where_27 : decode k_X10_where.2.1 27 = .ok (.aload_n 0, 1) := by decide +kernel
theorem dX10_where_28 : decode k_X10_where.2.1 28 = .ok (.invokevirtual 224, 3) := by decide +kernel
theorem dX10_where_31 : decode k_X10_where.2.1 31 = .ok (.iconst 0, 1) := by decide +kernel
theorem dX10_where_32 : decode k_X10_where.2.1 32 = .ok (.istore_n 3, 1) := by decide +kernel
theorem dX10_where_33 : decode k_X10_where.2.1 33 = .ok (.iconst 0, 1) := by decide +kernel
theorem dX10_where_34 : decode k_X10_where.2.1 34 = .ok (.istore 4, 2) := by decide +kernel
theorem dX10_where_36 : decode k_X10_where.2.1 36 = .ok (.iload 4, 2) := by decide +kernel
theorem dX10_where_38 : decode k_X10_where.2.1 38 = .ok (.aload_n 0, 1) := by decide +kernel
theorem dX10_where_39 : decode k_X10_where.2.1 39 = .ok (.getfield 120, 3) := by decide +kernel
theorem dX10_where_42 : decode k_X10_where.2.1 42 = .ok (.if_icmp .ge 34, 3) := by decide +kernel
theorem dX10_where_45 : decode k_X10_where.2.1 45 = .ok (.aload_n 0, 1) := by decide +kernel
theorem dX10_where_46 : decode k_X10_where.2.1 46 = .ok (.getfield 36, 3) := by decide +kernel
theorem dX10_where_49 : decode k_X10_where.2.1 49 = .ok (.iload 4, 2) := by decide +kernel
theorem dX10_where_51 : decode k_X10_where.2.1 51 = .ok (.iaload, 1) := by decide +kernel
theorem dX10_where_52 : decode k_X10_where.2.1 52 = .ok (.iload_n 1, 1) := by decide +kernel
theorem dX10_where_53 : decode k_X10_where.2.1 53 = .ok (.if_icmp .eq 6, 3) := by decide +kernel
theorem dX10_where_56 : decode k_X10_where.2.1 56 = .ok (.goto 14, 3) := by decide +kernel
theorem dX10_where_59 : decode k_X10_where.2.1 59 = .ok (.iload_n 3, 1) := by decide +kernel
theorem dX10_where_60 : decode k_X10_where.2.1 60 = .ok (.iload_n 2, 1) := by decide +kernel
theorem dX10_where_61 : decode k_X10_where.2.1 61 = .ok (.if_icmp .ne 6, 3) := by decide +kernel
theorem dX10_where_64 : decode k_X10_where.2.1 64 = .ok (.iload 4, 2) := by decide +kernel
theorem dX10_where_66 : decode k_X10_where.2.1 66 = .ok (.ireturn, 1) := by decide +kernel
theorem dX10_where_67 : decode k_X10_where.2.1 67 = .ok (.iinc 3 1, 3) := by decide +kernel
theorem dX10_where_70 : decode k_X10_where.2.1 70 = .ok (.iinc 4 1, 3) := by decide +kernel
theorem dX10_where_73 : decode k_X10_where.2.1 73 = .ok (.goto (-37), 3) := by decide +kernel
theorem dX10_where_76 : decode k_X10_where.2.1 76 = .ok (.iconst (-1), 1) := by decide +kernel
theorem dX10_where_77 : decode k_X10_where.2.1 77 = .ok (.ireturn, 1) := by decide +kernel
theorem dX10_commonOf_0 : decode k_X10_commonOf.2.1 0 = .ok (.iconst 0, 1) := by decide +kernel
theorem dX10_commonOf_1 : decode k_X10_commonOf.2.1 1 = .ok (.istore_n 3, 1) := by decide +kernel
theorem dX10_commonOf_2 : decode k_X10_commonOf.2.1 2 = .ok (.iload_n 1, 1) := by decide +kernel
theorem dX10_commonOf_3 : decode k_X10_commonOf.2.1 3 = .ok (.iload_n 3, 1) := by decide +kernel
theorem dX10_commonOf_4 : decode k_X10_commonOf.2.1 4 = .ok (.iadd, 1) := by decide +kernel
theorem dX10_commonOf_5 : decode k_X10_commonOf.2.1 5 = .ok (.aload_n 0, 1) := by decide +kernel
theorem dX10_commonOf_6 : decode k_X10_commonOf.2.1 6 = .ok (.getfield 120, 3) := by decide +kernel
theorem dX10_commonOf_9 : decode k_X10_commonOf.2.1 9 = .ok (.if_icmp .ge 38, 3) := by decide +kernel
theorem dX10_commonOf_12 : decode k_X10_commonOf.2.1 12 = .ok (.iload_n 2, 1) := by decide +kernel
theorem dX10_commonOf_13 : decode k_X10_commonOf.2.1 13 = .ok (.iload_n 3, 1) := by decide +kernel
theorem dX10_commonOf_14 : decode k_X10_commonOf.2.1 14 = .ok (.iadd, 1) := by decide +kernel
theorem dX10_commonOf_15 : decode k_X10_commonOf.2.1 15 = .ok (.aload_n 0, 1) := by decide +kernel
theorem dX10_commonOf_16 : decode k_X10_commonOf.2.1 16 = .ok (.getfield 120, 3) := by decide +kernel
theorem dX10_commonOf_19 : decode k_X10_commonOf.2.1 19 = .ok (.if_icmp .ge 28, 3) := by decide +kernel
theorem dX10_commonOf_22 : decode k_X10_commonOf.2.1 22 = .ok (.aload_n 0, 1) := by decide +kernel
theorem dX10_commonOf_23 : decode k_X10_commonOf.2.1 23 = .ok (.getfield 36, 3) := by decide +kernel
theorem dX10_commonOf_26 : decode k_X10_commonOf.2.1 26 = .ok (.iload_n 1, 1) := by decide +kernel
theorem dX10_commonOf_27 : decode k_X10_commonOf.2.1 27 = .ok (.iload_n 3, 1) := by decide +kernel
theorem dX10_commonOf_28 : decode k_X10_commonOf.2.1 28 = .ok (.iadd, 1) := by decide +kernel
theorem dX10_commonOf_29 : decode k_X10_commonOf.2.1 29 = .ok (.iaload, 1) := by decide +kernel
theorem dX10_commonOf_30 : decode k_X10_commonOf.2.1 30 = .ok (.aload_n 0, 1) := by decide +kernel
theorem dX10_commonOf_31 : decode k_X10_commonOf.2.1 31 = .ok (.getfield 36, 3) := by decide +kernel
theorem dX10_commonOf_34 : decode k_X10_commonOf.2.1 34 = .ok (.iload_n 2, 1) := by decide +kernel
theorem dX10_commonOf_35 : decode k_X10_commonOf.2.1 35 = .ok (.iload_n 3, 1) := by decide +kernel
theorem dX10_commonOf_36 : decode k_X10_commonOf.2.1 36 = .ok (.iadd, 1) := by decide +kernel
theorem dX10_commonOf_37 : decode k_X10_commonOf.2.1 37 = .ok (.iaload, 1) := by decide +kernel
theorem dX10_commonOf_38 : decode k_X10_commonOf.2.1 38 = .ok (.if_icmp .ne 9, 3) := by decide +kernel
theorem dX10_commonOf_41 : decode k_X10_commonOf.2.1 41 = .ok (.iinc 3 1, 3) := by decide +kernel
theorem dX10_commonOf_44 : decode k_X10_commonOf.2.1 44 = .ok (.goto (-42), 3) := by decide +kernel
theorem dX10_commonOf_47 : decode k_X10_commonOf.2.1 47 = .ok (.iload_n 3, 1) := by decide +kernel
theorem dX10_commonOf_48 : decode k_X10_commonOf.2.1 48 = .ok (.ireturn, 1) := by decide +kernel
theorem dX10_arePlaces_0 : decode k_X10_arePlaces.2.1 0 = .ok (.aload_n 0, 1) := by decide +kernel
theorem dX10_arePlaces_1 : decode k_X10_arePlaces.2.1 1 = .ok (.invokevirtual 224, 3) := by decide +kernel
theorem dX10_arePlaces_4 : decode k_X10_arePlaces.2.1 4 = .ok (.iload_n 1, 1) := by decide +kernel
theorem dX10_arePlaces_5 : decode k_X10_arePlaces.2.1 5 = .ok (.i2l, 1) := by decide +kernel
theorem dX10_arePlaces_6 : decode k_X10_arePlaces.2.1 6 = .ok (.lconst 0, 1) := by decide +kernel
theorem dX10_arePlaces_7 : decode k_X10_arePlaces.2.1 7 = .ok (.aload_n 0, 1) := by decide +kernel
theorem dX10_arePlaces_8 : decode k_X10_arePlaces.2.1 8 = .ok (.getfield 120, 3) := by decide +kernel
theorem dX10_arePlaces_11 : decode k_X10_arePlaces.2.1 11 = .ok (.iconst 1, 1) := by decide +kernel
theorem dX10_arePlaces_12 : decode k_X10_arePlaces.2.1 12 = .ok (.isub, 1) := by decide +kernel
theorem dX10_arePlaces_13 : decode k_X10_arePlaces.2.1 13 = .ok (.i2l, 1) := by decide +kernel
theorem dX10_arePlaces_14 : decode k_X10_arePlaces.2.1 14 = .ok (.invokestatic 98, 3) := by decide +kernel
theorem dX10_arePlaces_17 : decode k_X10_arePlaces.2.1 17 = .ok (.ifCond .eq 23, 3) := by decide +kernel
theorem dX10_arePlaces_20 : decode k_X10_arePlaces.2.1 20 = .ok (.iload_n 2, 1) := by decide +kernel
theorem dX10_arePlaces_21 : decode k_X10_arePlaces.2.1 21 = .ok (.i2l, 1) := by decide +kernel
theorem dX10_arePlaces_22 : decode k_X10_arePlaces.2.1 22 = .ok (.lconst 0, 1) := by decide +kernel
theorem dX10_arePlaces_23 : decode k_X10_arePlaces.2.1 23 = .ok (.aload_n 0, 1) := by decide +kernel
theorem dX10_arePlaces_24 : decode k_X10_arePlaces.2.1 24 = .ok (.getfield 120, 3) := by decide +kernel
theorem dX10_arePlaces_27 : decode k_X10_arePlaces.2.1 27 = .ok (.iconst 1, 1) := by decide +kernel
theorem dX10_arePlaces_28 : decode k_X10_arePlaces.2.1 28 = .ok (.isub, 1) := by decide +kernel
theorem dX10_arePlaces_29 : decode k_X10_arePlaces.2.1 29 = .ok (.i2l, 1) := by decide +kernel
theorem dX10_arePlaces_30 : decode k_X10_arePlaces.2.1 30 = .ok (.invokestatic 98, 3) := by decide +kernel
theorem dX10_arePlaces_33 : decode k_X10_arePlaces.2.1 33 = .ok (.ifCond .eq 7, 3) := by decide +kernel
theorem dX10_arePlaces_36 : decode k_X10_arePlaces.2.1 36 = .ok (.iconst 1, 1) := by decide +kernel
theorem dX10_arePlaces_37 : decode k_X10_arePlaces.2.1 37 = .ok (.goto 4, 3) := by decide +kernel
theorem dX10_arePlaces_40 : decode k_X10_arePlaces.2.1 40 = .ok (.iconst 0, 1) := by decide +kernel
theorem dX10_arePlaces_41 : decode k_X10_arePlaces.2.1 41 = .ok (.ireturn, 1) := by decide +kernel
theorem dX10_common_0 : decode k_X10_common.2.1 0 = .ok (.aload_n 0, 1) := by decide +kernel
theorem dX10_common_1 : decode k_X10_common.2.1 1 = .ok (.iconst 0, 1) := by decide +kernel
theorem dX10_common_2 : decode k_X10_common.2.1 2 = .ok (.putfield 1, 3) := by decide +kernel
theorem dX10_common_5 : decode k_X10_common.2.1 5 = .ok (.aload_n 0, 1) := by decide +kernel
theorem dX10_common_6 : decode k_X10_common.2.1 6 = .ok (.iload_n 1, 1) := by decide +kernel
theorem dX10_common_7 : decode k_X10_common.2.1 7 = .ok (.iload_n 2, 1) := by decide +kernel
theorem dX10_common_8 : decode k_X10_common.2.1 8 = .ok (.invokevirtual 291, 3) := by decide +kernel
theorem dX10_common_11 : decode k_X10_common.2.1 11 = .ok (.ifCond .eq 12, 3) := by decide +kernel
theorem dX10_common_14 : decode k_X10_common.2.1 14 = .ok (.aload_n 0, 1) := by decide +kernel
theorem dX10_common_15 : decode k_X10_common.2.1 15 = .ok (.iload_n 1, 1) := by decide +kernel
theorem dX10_common_16 : decode k_X10_common.2.1 16 = .ok (.iload_n 2, 1) := by decide +kernel
theorem dX10_common_17 : decode k_X10_common.2.1 17 = .ok (.invokevirtual 294, 3) := by decide +kernel
theorem dX10_common_20 : decode k_X10_common.2.1 20 = .ok (.goto 5, 3) := by decide +kernel
theorem dX10_common_23 : decode k_X10_common.2.1 23 = .ok (.bipush (-5), 2) := by decide +kernel
theorem dX10_common_25 : decode k_X10_common.2.1 25 = .ok (.ireturn, 1) := by decide +kernel
theorem dX10_compare_0 : decode k_X10_compare.2.1 0 = .ok (.aload_n 0, 1) := by decide +kernel
theorem dX10_compare_1 : decode k_X10_compare.2.1 1 = .ok (.iconst 0, 1) := by decide +kernel
theorem dX10_compare_2 : decode k_X10_compare.2.1 2 = .ok (.putfield 1, 3) := by decide +kernel
theorem dX10_compare_5 : decode k_X10_compare.2.1 5 = .ok (.aload_n 0, 1) := by decide +kernel
theorem dX10_compare_6 : decode k_X10_compare.2.1 6 = .ok (.iload_n 1, 1) := by decide +kernel
theorem dX10_compare_7 : decode k_X10_compare.2.1 7 = .ok (.iload_n 2, 1) := by decide +kernel
theorem dX10_compare_8 : decode k_X10_compare.2.1 8 = .ok (.invokevirtual 291, 3) := by decide +kernel
theorem dX10_compare_11 : decode k_X10_compare.2.1 11 = .ok (.ifCond .ne 6, 3) := by decide +kernel
theorem dX10_compare_14 : decode k_X10_compare.2.1 14 = .ok (.bipush (-5), 2) := by decide +kernel
theorem dX10_compare_16 : decode k_X10_compare.2.1 16 = .ok (.ireturn, 1) := by decide +kernel
theorem dX10_compare_17 : decode k_X10_compare.2.1 17 = .ok (.iload_n 1, 1) := by decide +kernel
theorem dX10_compare_18 : decode k_X10_compare.2.1 18 = .ok (.iload_n 2, 1) := by decide +kernel
theorem dX10_compare_19 : decode k_X10_compare.2.1 19 = .ok (.if_icmp .ne 5, 3) := by decide +kernel
theorem dX10_compare_22 : decode k_X10_compare.2.1 22 = .ok (.iconst 0, 1) := by decide +kernel
theorem dX10_compare_23 : decode k_X10_compare.2.1 23 = .ok (.ireturn, 1) := by decide +kernel
theorem dX10_compare_24 : decode k_X10_compare.2.1 24 = .ok (.aload_n 0, 1) := by decide +kernel
theorem dX10_compare_25 : decode k_X10_compare.2.1 25 = .ok (.iload_n 1, 1) := by decide +kernel
theorem dX10_compare_26 : decode k_X10_compare.2.1 26 = .ok (.iload_n 2, 1) := by decide +kernel
theorem dX10_compare_27 : decode k_X10_compare.2.1 27 = .ok (.invokevirtual 294, 3) := by decide +kernel
theorem dX10_compare_30 : decode k_X10_compare.2.1 30 = .ok (.istore_n 3, 1) := by decide +kernel
theorem dX10_compare_31 : decode k_X10_compare.2.1 31 = .ok (.iload_n 1, 1) := by decide +kernel
theorem dX10_compare_32 : decode k_X10_compare.2.1 32 = .ok (.iload_n 3, 1) := by decide +kernel
theorem dX10_compare_33 : decode k_X10_compare.2.1 33 = .ok (.iadd, 1) := by decide +kernel
theorem dX10_compare_34 : decode k_X10_compare.2.1 34 = .ok (.aload_n 0, 1) := by decide +kernel
theorem dX10_compare_35 : decode k_X10_compare.2.1 35 = .ok (.getfield 120, 3) := by decide +kernel
theorem dX10_compare_38 : decode k_X10_compare.2.1 38 = .ok (.if_icmp .ne 5, 3) := by decide +kernel
theorem dX10_compare_41 : decode k_X10_compare.2.1 41 = .ok (.iconst 1, 1) := by decide +kernel
theorem dX10_compare_42 : decode k_X10_compare.2.1 42 = .ok (.ireturn, 1) := by decide +kernel
theorem dX10_compare_43 : decode k_X10_compare.2.1 43 = .ok (.iload_n 2, 1) := by decide +kernel
theorem dX10_compare_44 : decode k_X10_compare.2.1 44 = .ok (.iload_n 3, 1) := by decide +kernel
theorem dX10_compare_45 : decode k_X10_compare.2.1 45 = .ok (.iadd, 1) := by decide +kernel
theorem dX10_compare_46 : decode k_X10_compare.2.1 46 = .ok (.aload_n 0, 1) := by decide +kernel
theorem dX10_compare_47 : decode k_X10_compare.2.1 47 = .ok (.getfield 120, 3) := by decide +kernel
theorem dX10_compare_50 : decode k_X10_compare.2.1 50 = .ok (.if_icmp .ne 5, 3) := by decide +kernel
theorem dX10_compare_53 : decode k_X10_compare.2.1 53 = .ok (.iconst 2, 1) := by decide +kernel
theorem dX10_compare_54 : decode k_X10_compare.2.1 54 = .ok (.ireturn, 1) := by decide +kernel
theorem dX10_compare_55 : decode k_X10_compare.2.1 55 = .ok (.aload_n 0, 1) := by decide +kernel
theorem dX10_compare_56 : decode k_X10_compare.2.1 56 = .ok (.getfield 36, 3) := by decide +kernel
theorem dX10_compare_59 : decode k_X10_compare.2.1 59 = .ok (.iload_n 1, 1) := by decide +kernel
theorem dX10_compare_60 : decode k_X10_compare.2.1 60 = .ok (.iload_n 3, 1) := by decide +kernel
theorem dX10_compare_61 : decode k_X10_compare.2.1 61 = .ok (.iadd, 1) := by decide +kernel
theorem dX10_compare_62 : decode k_X10_compare.2.1 62 = .ok (.iaload, 1) := by decide +kernel
theorem dX10_compare_63 : decode k_X10_compare.2.1 63 = .ok (.aload_n 0, 1) := by decide +kernel
theorem dX10_compare_64 : decode k_X10_compare.2.1 64 = .ok (.getfield 36, 3) := by decide +kernel
theorem dX10_compare_67 : decode k_X10_compare.2.1 67 = .ok (.iload_n 2, 1) := by decide +kernel
theorem dX10_compare_68 : decode k_X10_compare.2.1 68 = .ok (.iload_n 3, 1) := by decide +kernel
theorem dX10_compare_69 : decode k_X10_compare.2.1 69 = .ok (.iadd, 1) := by decide +kernel
theorem dX10_compare_70 : decode k_X10_compare.2.1 70 = .ok (.iaload, 1) := by decide +kernel
theorem dX10_compare_71 : decode k_X10_compare.2.1 71 = .ok (.if_icmp .ge 7, 3) := by decide +kernel
theorem dX10_compare_74 : decode k_X10_compare.2.1 74 = .ok (.iconst 1, 1) := by decide +kernel
theorem dX10_compare_75 : decode k_X10_compare.2.1 75 = .ok (.goto 4, 3) := by decide +kernel
theorem dX10_compare_78 : decode k_X10_compare.2.1 78 = .ok (.iconst 2, 1) := by decide +kernel
theorem dX10_compare_79 : decode k_X10_compare.2.1 79 = .ok (.ireturn, 1) := by decide +kernel
theorem dX10_print_0 : decode k_X10_print.2.1 0 = .ok (.aload_n 0, 1) := by decide +kernel
theorem dX10_print_1 : decode k_X10_print.2.1 1 = .ok (.iconst 0, 1) := by decide +kernel
theorem dX10_print_2 : decode k_X10_print.2.1 2 = .ok (.putfield 1, 3) := by decide +kernel
theorem dX10_print_5 : decode k_X10_print.2.1 5 = .ok (.iload_n 2, 1) := by decide +kernel
theorem dX10_print_6 : decode k_X10_print.2.1 6 = .ok (.ifCond .ge 6, 3) := by decide +kernel
theorem dX10_print_9 : decode k_X10_print.2.1 9 = .ok (.bipush (-3), 2) := by decide +kernel
theorem dX10_print_11 : decode k_X10_print.2.1 11 = .ok (.ireturn, 1) := by decide +kernel
theorem dX10_print_12 : decode k_X10_print.2.1 12 = .ok (.aload_n 0, 1) := by decide +kernel
theorem dX10_print_13 : decode k_X10_print.2.1 13 = .ok (.invokevirtual 224, 3) := by decide +kernel
theorem dX10_print_16 : decode k_X10_print.2.1 16 = .ok (.iload_n 1, 1) := by decide +kernel
theorem dX10_print_17 : decode k_X10_print.2.1 17 = .ok (.ifCond .lt 17, 3) := by decide +kernel
theorem dX10_print_20 : decode k_X10_print.2.1 20 = .ok (.iload_n 1, 1) := by decide +kernel
theorem dX10_print_21 : decode k_X10_print.2.1 21 = .ok (.i2l, 1) := by decide +kernel
theorem dX10_print_22 : decode k_X10_print.2.1 22 = .ok (.iload_n 2, 1) := by decide +kernel
theorem dX10_print_23 : decode k_X10_print.2.1 23 = .ok (.i2l, 1) := by decide +kernel
theorem dX10_print_24 : decode k_X10_print.2.1 24 = .ok (.ladd, 1) := by decide +kernel
theorem dX10_print_25 : decode k_X10_print.2.1 25 = .ok (.aload_n 0, 1) := by decide +kernel
theorem dX10_print_26 : decode k_X10_print.2.1 26 = .ok (.getfield 120, 3) := by decide +kernel
theorem dX10_print_29 : decode k_X10_print.2.1 29 = .ok (.i2l, 1) := by decide +kernel
theorem dX10_print_30 : decode k_X10_print.2.1 30 = .ok (.lcmp, 1) := by decide +kernel
theorem dX10_print_31 : decode k_X10_print.2.1 31 = .ok (.ifCond .le 6, 3) := by decide +kernel
theorem dX10_print_34 : decode k_X10_print.2.1 34 = .ok (.bipush (-5), 2) := by decide +kernel
theorem dX10_print_36 : decode k_X10_print.2.1 36 = .ok (.ireturn, 1) := by decide +kernel
theorem dX10_print_37 : decode k_X10_print.2.1 37 = .ok (.iconst 0, 1) := by decide +kernel
theorem dX10_print_38 : decode k_X10_print.2.1 38 = .ok (.istore_n 3, 1) := by decide +kernel
theorem dX10_print_39 : decode k_X10_print.2.1 39 = .ok (.iconst 0, 1) := by decide +kernel
theorem dX10_print_40 : decode k_X10_print.2.1 40 = .ok (.istore 4, 2) := by decide +kernel
theorem dX10_print_42 : decode k_X10_print.2.1 42 = .ok (.iload 4, 2) := by decide +kernel
theorem dX10_print_44 : decode k_X10_print.2.1 44 = .ok (.iload_n 2, 1) := by decide +kernel
theorem dX10_print_45 : decode k_X10_print.2.1 45 = .ok (.if_icmp .ge 30, 3) := by decide +kernel
theorem dX10_print_48 : decode k_X10_print.2.1 48 = .ok (.bipush 31, 2) := by decide +kernel
theorem dX10_print_50 : decode k_X10_print.2.1 50 = .ok (.iload_n 3, 1) := by decide +kernel
theorem dX10_print_51 : decode k_X10_print.2.1 51 = .ok (.imul, 1) := by decide +kernel
theorem dX10_print_52 : decode k_X10_print.2.1 52 = .ok (.aload_n 0, 1) := by decide +kernel
theorem dX10_print_53 : decode k_X10_print.2.1 53 = .ok (.getfield 36, 3) := by decide +kernel
theorem dX10_print_56 : decode k_X10_print.2.1 56 = .ok (.iload_n 1, 1) := by decide +kernel
theorem dX10_print_57 : decode k_X10_print.2.1 57 = .ok (.iload 4, 2) := by decide +kernel
theorem dX10_print_59 : decode k_X10_print.2.1 59 = .ok (.iadd, 1) := by decide +kernel
theorem dX10_print_60 : decode k_X10_print.2.1 60 = .ok (.iaload, 1) := by decide +kernel
theorem dX10_print_61 : decode k_X10_print.2.1 61 = .ok (.iadd, 1) := by decide +kernel
theorem dX10_print_62 : decode k_X10_print.2.1 62 = .ok (.iconst 1, 1) := by decide +kernel
theorem dX10_print_63 : decode k_X10_print.2.1 63 = .ok (.iadd, 1) := by decide +kernel
theorem dX10_print_64 : decode k_X10_print.2.1 64 = .ok (.ldc_w 297, 3) := by decide +kernel
theorem dX10_print_67 : decode k_X10_print.2.1 67 = .ok (.irem, 1) := by decide +kernel
theorem dX10_print_68 : decode k_X10_print.2.1 68 = .ok (.istore_n 3, 1) := by decide +kernel
theorem dX10_print_69 : decode k_X10_print.2.1 69 = .ok (.iinc 4 1, 3) := by decide +kernel
theorem dX10_print_72 : decode k_X10_print.2.1 72 = .ok (.goto (-30), 3) := by decide +kernel
theorem dX10_print_75 : decode k_X10_print.2.1 75 = .ok (.iload_n 3, 1) := by decide +kernel
theorem dX10_print_76 : decode k_X10_print.2.1 76 = .ok (.ireturn, 1) := by decide +kernel
theorem dX10_laysTwice_0 : decode k_X10_laysTwice.2.1 0 = .ok (.aload_n 0, 1) := by decide +kernel
theorem dX10_laysTwice_1 : decode k_X10_laysTwice.2.1 1 = .ok (.invokevirtual 224, 3) := by decide +kernel
theorem dX10_laysTwice_4 : decode k_X10_laysTwice.2.1 4 = .ok (.aload_n 0, 1) := by decide +kernel
theorem dX10_laysTwice_5 : decode k_X10_laysTwice.2.1 5 = .ok (.iconst 0, 1) := by decide +kernel
theorem dX10_laysTwice_6 : decode k_X10_laysTwice.2.1 6 = .ok (.putfield 298, 3) := by decide +kernel
theorem dX10_laysTwice_9 : decode k_X10_laysTwice.2.1 9 = .ok (.aload_n 0, 1) := by decide +kernel
theorem dX10_laysTwice_10 : decode k_X10_laysTwice.2.1 10 = .ok (.iconst (-1), 1) := by decide +kernel
theorem dX10_laysTwice_11 : decode k_X10_laysTwice.2.1 11 = .ok (.putfield 301, 3) := by decide +kernel
theorem dX10_laysTwice_14 : decode k_X10_laysTwice.2.1 14 = .ok (.iconst 0, 1) := by decide +kernel
theorem dX10_laysTwice_15 : decode k_X10_laysTwice.2.1 15 = .ok (.istore_n 1, 1) := by decide +kernel
theorem dX10_laysTwice_16 : decode k_X10_laysTwice.2.1 16 = .ok (.iload_n 1, 1) := by decide +kernel
theorem dX10_laysTwice_17 : decode k_X10_laysTwice.2.1 17 = .ok (.aload_n 0, 1) := by decide +kernel
theorem dX10_laysTwice_18 : decode k_X10_laysTwice.2.1 18 = .ok (.getfield 120, 3) := by decide +kernel
theorem dX10_laysTwice_21 : decode k_X10_laysTwice.2.1 21 = .ok (.if_icmp .ge 55, 3) := by decide +kernel
theorem dX10_laysTwice_24 : decode k_X10_laysTwice.2.1 24 = .ok (.iload_n 1, 1) := by decide +kernel
theorem dX10_laysTwice_25 : decode k_X10_laysTwice.2.1 25 = .ok (.iconst 1, 1) := by decide +kernel
theorem dX10_laysTwice_26 : decode k_X10_laysTwice.2.1 26 = .ok (.iadd, 1) := by decide +kernel
theorem dX10_laysTwice_27 : decode k_X10_laysTwice.2.1 27 = .ok (.istore_n 2, 1) := by decide +kernel
theorem dX10_laysTwice_28 : decode k_X10_laysTwice.2.1 28 = .ok (.iload_n 2, 1) := by decide +kernel
theorem dX10_laysTwice_29 : decode k_X10_laysTwice.2.1 29 = .ok (.aload_n 0, 1) := by decide +kernel
theorem dX10_laysTwice_30 : decode k_X10_laysTwice.2.1 30 = .ok (.getfield 120, 3) := by decide +kernel
theorem dX10_laysTwice_33 : decode k_X10_laysTwice.2.1 33 = .ok (.if_icmp .ge 37, 3) := by decide +kernel
theorem dX10_laysTwice_36 : decode k_X10_laysTwice.2.1 36 = .ok (.aload_n 0, 1) := by decide +kernel
theorem dX10_laysTwice_37 : decode k_X10_laysTwice.2.1 37 = .ok (.iload_n 1, 1) := by decide +kernel
theorem dX10_laysTwice_38 : decode k_X10_laysTwice.2.1 38 = .ok (.iload_n 2, 1) := by decide +kernel
theorem dX10_laysTwice_39 : decode k_X10_laysTwice.2.1 39 = .ok (.invokevirtual 294, 3) := by decide +kernel
theorem dX10_laysTwice_42 : decode k_X10_laysTwice.2.1 42 = .ok (.istore_n 3, 1) := by decide +kernel
theorem dX10_laysTwice_43 : decode k_X10_laysTwice.2.1 43 = .ok (.iload_n 3, 1) := by decide +kernel
theorem dX10_laysTwice_44 : decode k_X10_laysTwice.2.1 44 = .ok (.aload_n 0, 1) := by decide +kernel
theorem dX10_laysTwice_45 : decode k_X10_laysTwice.2.1 45 = .ok (.getfield 298, 3) := by decide +kernel
theorem dX10_laysTwice_48 : decode k_X10_laysTwice.2.1 48 = .ok (.if_icmp .gt 6, 3) := by decide +kernel
theorem dX10_laysTwice_51 : decode k_X10_laysTwice.2.1 51 = .ok (.goto 13, 3) := by decide +kernel
theorem dX10_laysTwice_54 : decode k_X10_laysTwice.2.1 54 = .ok (.aload_n 0, 1) := by decide +kernel
theorem dX10_laysTwice_55 : decode k_X10_laysTwice.2.1 55 = .ok (.iload_n 3, 1) := by decide +kernel
theorem dX10_laysTwice_56 : decode k_X10_laysTwice.2.1 56 = .ok (.putfield 298, 3) := by decide +kernel
theorem dX10_laysTwice_59 : decode k_X10_laysTwice.2.1 59 = .ok (.aload_n 0, 1) := by decide +kernel
theorem dX10_laysTwice_60 : decode k_X10_laysTwice.2.1 60 = .ok (.iload_n 1, 1) := by decide +kernel
theorem dX10_laysTwice_61 : decode k_X10_laysTwice.2.1 61 = .ok (.putfield 301, 3) := by decide +kernel
theorem dX10_laysTwice_64 : decode k_X10_laysTwice.2.1 64 = .ok (.iinc 2 1, 3) := by decide +kernel
theorem dX10_laysTwice_67 : decode k_X10_laysTwice.2.1 67 = .ok (.goto (-39), 3) := by decide +kernel
theorem dX10_laysTwice_70 : decode k_X10_laysTwice.2.1 70 = .ok (.iinc 1 1, 3) := by decide +kernel
theorem dX10_laysTwice_73 : decode k_X10_laysTwice.2.1 73 = .ok (.goto (-57), 3) := by decide +kernel
theorem dX10_laysTwice_76 : decode k_X10_laysTwice.2.1 76 = .ok (.return_, 1) := by decide +kernel
theorem dX10_repeat_0 : decode k_X10_repeat.2.1 0 = .ok (.aload_n 0, 1) := by decide +kernel
theorem dX10_repeat_1 : decode k_X10_repeat.2.1 1 = .ok (.iconst 0, 1) := by decide +kernel
theorem dX10_repeat_2 : decode k_X10_repeat.2.1 2 = .ok (.putfield 1, 3) := by decide +kernel
theorem dX10_repeat_5 : decode k_X10_repeat.2.1 5 = .ok (.aload_n 0, 1) := by decide +kernel
theorem dX10_repeat_6 : decode k_X10_repeat.2.1 6 = .ok (.invokevirtual 304, 3) := by decide +kernel
theorem dX10_repeat_9 : decode k_X10_repeat.2.1 9 = .ok (.aload_n 0, 1) := by decide +kernel
theorem dX10_repeat_10 : decode k_X10_repeat.2.1 10 = .ok (.getfield 298, 3) := by decide +kernel
theorem dX10_repeat_13 : decode k_X10_repeat.2.1 13 = .ok (.ireturn, 1) := by decide +kernel
theorem dX10_repeatAt_0 : decode k_X10_repeatAt.2.1 0 = .ok (.aload_n 0, 1) := by decide +kernel
theorem dX10_repeatAt_1 : decode k_X10_repeatAt.2.1 1 = .ok (.iconst 0, 1) := by decide +kernel
theorem dX10_repeatAt_2 : decode k_X10_repeatAt.2.1 2 = .ok (.putfield 1, 3) := by decide +kernel
theorem dX10_repeatAt_5 : decode k_X10_repeatAt.2.1 5 = .ok (.aload_n 0, 1) := by decide +kernel
theorem dX10_repeatAt_6 : decode k_X10_repeatAt.2.1 6 = .ok (.invokevirtual 304, 3) := by decide +kernel
theorem dX10_repeatAt_9 : decode k_X10_repeatAt.2.1 9 = .ok (.aload_n 0, 1) := by decide +kernel
theorem dX10_repeatAt_10 : decode k_X10_repeatAt.2.1 10 = .ok (.getfield 301, 3) := by decide +kernel
theorem dX10_repeatAt_13 : decode k_X10_repeatAt.2.1 13 = .ok (.ireturn, 1) := by decide +kernel
theorem dX10_isHit_0 : decode k_X10_isHit.2.1 0 = .ok (.aload_n 0, 1) := by decide +kernel
theorem dX10_isHit_1 : decode k_X10_isHit.2.1 1 = .ok (.getfield 221, 3) := by decide +kernel
theorem dX10_isHit_4 : decode k_X10_isHit.2.1 4 = .ok (.ifCond .eq 16, 3) := by decide +kernel
theorem dX10_isHit_7 : decode k_X10_isHit.2.1 7 = .ok (.iload_n 1, 1) := by decide +kernel
theorem dX10_isHit_8 : decode k_X10_isHit.2.1 8 = .ok (.aload_n 0, 1) := by decide +kernel
theorem dX10_isHit_9 : decode k_X10_isHit.2.1 9 = .ok (.getfield 221, 3) := by decide +kernel
theorem dX10_isHit_12 : decode k_X10_isHit.2.1 12 = .ok (.iadd, 1) := by decide +kernel
theorem dX10_isHit_13 : decode k_X10_isHit.2.1 13 = .ok (.aload_n 0, 1) := by decide +kernel
theorem dX10_isHit_14 : decode k_X10_isHit.2.1 14 = .ok (.getfield 120, 3) := by decide +kernel
theorem dX10_isHit_17 : decode k_X10_isHit.2.1 17 = .ok (.if_icmp .le 5, 3) := by decide +kernel
theorem dX10_isHit_20 : decode k_X10_isHit.2.1 20 = .ok (.iconst 0, 1) := by decide +kernel
theorem dX10_isHit_21 : decode k_X10_isHit.2.1 21 = .ok (.ireturn, 1) := by decide +kernel
theorem dX10_isHit_22 : decode k_X10_isHit.2.1 22 = .ok (.iconst 0, 1) := by decide +kernel
theorem dX10_isHit_23 : decode k_X10_isHit.2.1 23 = .ok (.istore_n 2, 1) := by decide +kernel
theorem dX10_isHit_24 : decode k_X10_isHit.2.1 24 = .ok (.iload_n 2, 1) := by decide +kernel
theorem dX10_isHit_25 : decode k_X10_isHit.2.1 25 = .ok (.aload_n 0, 1) := by decide +kernel
theorem dX10_isHit_26 : decode k_X10_isHit.2.1 26 = .ok (.getfield 221, 3) := by decide +kernel
theorem dX10_isHit_29 : decode k_X10_isHit.2.1 29 = .ok (.if_icmp .ge 28, 3) := by decide +kernel
theorem dX10_isHit_32 : decode k_X10_isHit.2.1 32 = .ok (.aload_n 0, 1) := by decide +kernel
theorem dX10_isHit_33 : decode k_X10_isHit.2.1 33 = .ok (.getfield 36, 3) := by decide +kernel
theorem dX10_isHit_36 : decode k_X10_isHit.2.1 36 = .ok (.iload_n 1, 1) := by decide +kernel
theorem dX10_isHit_37 : decode k_X10_isHit.2.1 37 = .ok (.iload_n 2, 1) := by decide +kernel
theorem dX10_isHit_38 : decode k_X10_isHit.2.1 38 = .ok (.iadd, 1) := by decide +kernel
theorem dX10_isHit_39 : decode k_X10_isHit.2.1 39 = .ok (.iaload, 1) := by decide +kernel
theorem dX10_isHit_40 : decode k_X10_isHit.2.1 40 = .ok (.aload_n 0, 1) := by decide +kernel
theorem dX10_isHit_41 : decode k_X10_isHit.2.1 41 = .ok (.getfield 49, 3) := by decide +kernel
theorem dX10_isHit_44 : decode k_X10_isHit.2.1 44 = .ok (.iload_n 2, 1) := by decide +kernel
theorem dX10_isHit_45 : decode k_X10_isHit.2.1 45 = .ok (.iaload, 1) := by decide +kernel
theorem dX10_isHit_46 : decode k_X10_isHit.2.1 46 = .ok (.if_icmp .eq 5, 3) := by decide +kernel
theorem dX10_isHit_49 : decode k_X10_isHit.2.1 49 = .ok (.iconst 0, 1) := by decide +kernel
theorem dX10_isHit_50 : decode k_X10_isHit.2.1 50 = .ok (.ireturn, 1) := by decide +kernel
theorem dX10_isHit_51 : decode k_X10_isHit.2.1 51 = .ok (.iinc 2 1, 3) := by decide +kernel
theorem dX10_isHit_54 : decode k_X10_isHit.2.1 54 = .ok (.goto (-30), 3) := by decide +kernel
theorem dX10_isHit_57 : decode k_X10_isHit.2.1 57 = .ok (.iconst 1, 1) := by decide +kernel
theorem dX10_isHit_58 : decode k_X10_isHit.2.1 58 = .ok (.ireturn, 1) := by decide +kernel
theorem dX10_hitsIn_0 : decode k_X10_hitsIn.2.1 0 = .ok (.iconst 0, 1) := by decide +kernel
theorem dX10_hitsIn_1 : decode k_X10_hitsIn.2.1 1 = .ok (.istore_n 1, 1) := by decide +kernel
theorem dX10_hitsIn_2 : decode k_X10_hitsIn.2.1 2 = .ok (.iconst 0, 1) := by decide +kernel
theorem dX10_hitsIn_3 : decode k_X10_hitsIn.2.1 3 = .ok (.istore_n 2, 1) := by decide +kernel
theorem dX10_hitsIn_4 : decode k_X10_hitsIn.2.1 4 = .ok (.iload_n 2, 1) := by decide +kernel
theorem dX10_hitsIn_5 : decode k_X10_hitsIn.2.1 5 = .ok (.aload_n 0, 1) := by decide +kernel
theorem dX10_hitsIn_6 : decode k_X10_hitsIn.2.1 6 = .ok (.getfield 120, 3) := by decide +kernel
theorem dX10_hitsIn_9 : decode k_X10_hitsIn.2.1 9 = .ok (.if_icmp .ge 25, 3) := by decide +kernel
theorem dX10_hitsIn_12 : decode k_X10_hitsIn.2.1 12 = .ok (.iload_n 1, 1) := by decide +kernel
theorem dX10_hitsIn_13 : decode k_X10_hitsIn.2.1 13 = .ok (.aload_n 0, 1) := by decide +kernel
theorem dX10_hitsIn_14 : decode k_X10_hitsIn.2.1 14 = .ok (.iload_n 2, 1) := by decide +kernel
theorem dX10_hitsIn_15 : decode k_X10_hitsIn.2.1 15 = .ok (.invokevirtual 307, 3) := by decide +kernel
theorem dX10_hitsIn_18 : decode k_X10_hitsIn.2.1 18 = .ok (.ifCond .eq 7, 3) := by decide +kernel
theorem dX10_hitsIn_21 : decode k_X10_hitsIn.2.1 21 = .ok (.iconst 1, 1) := by decide +kernel
theorem dX10_hitsIn_22 : decode k_X10_hitsIn.2.1 22 = .ok (.goto 4, 3) := by decide +kernel
theorem dX10_hitsIn_25 : decode k_X10_hitsIn.2.1 25 = .ok (.iconst 0, 1) := by decide +kernel
theorem dX10_hitsIn_26 : decode k_X10_hitsIn.2.1 26 = .ok (.iadd, 1) := by decide +kernel
theorem dX10_hitsIn_27 : decode k_X10_hitsIn.2.1 27 = .ok (.istore_n 1, 1) := by decide +kernel
theorem dX10_hitsIn_28 : decode k_X10_hitsIn.2.1 28 = .ok (.iinc 2 1, 3) := by decide +kernel
theorem dX10_hitsIn_31 : decode k_X10_hitsIn.2.1 31 = .ok (.goto (-27), 3) := by decide +kernel
theorem dX10_hitsIn_34 : decode k_X10_hitsIn.2.1 34 = .ok (.iload_n 1, 1) := by decide +kernel
theorem dX10_hitsIn_35 : decode k_X10_hitsIn.2.1 35 = .ok (.ireturn, 1) := by decide +kernel
theorem dX10_hit_0 : decode k_X10_hit.2.1 0 = .ok (.aload_n 0, 1) := by decide +kernel
theorem dX10_hit_1 : decode k_X10_hit.2.1 1 = .ok (.iconst 0, 1) := by decide +kernel
theorem dX10_hit_2 : decode k_X10_hit.2.1 2 = .ok (.putfield 1, 3) := by decide +kernel
theorem dX10_hit_5 : decode k_X10_hit.2.1 5 = .ok (.iload_n 1, 1) := by decide +kernel
theorem dX10_hit_6 : decode k_X10_hit.2.1 6 = .ok (.ifCond .ge 6, 3) := by decide +kernel
theorem dX10_hit_9 : decode k_X10_hit.2.1 9 = .ok (.bipush (-3), 2) := by decide +kernel
theorem dX10_hit_11 : decode k_X10_hit.2.1 11 = .ok (.ireturn, 1) := by decide +kernel
theorem dX10_hit_12 : decode k_X10_hit.2.1 12 = .ok (.aload_n 0, 1) := by decide +kernel
theorem dX10_hit_13 : decode k_X10_hit.2.1 13 = .ok (.getfield 221, 3) := by decide +kernel
theorem dX10_hit_16 : decode k_X10_hit.2.1 16 = .ok (.ifCond .ne 6, 3) := by decide +kernel
theorem dX10_hit_19 : decode k_X10_hit.2.1 19 = .ok (.bipush (-5), 2) := by decide +kernel
theorem dX10_hit_21 : decode k_X10_hit.2.1 21 = .ok (.ireturn, 1) := by decide +kernel
theorem dX10_hit_22 : decode k_X10_hit.2.1 22 = .ok (.aload_n 0, 1) := by decide +kernel
theorem dX10_hit_23 : decode k_X10_hit.2.1 23 = .ok (.invokevirtual 224, 3) := by decide +kernel
theorem dX10_hit_26 : decode k_X10_hit.2.1 26 = .ok (.iconst 0, 1) := by decide +kernel
theorem dX10_hit_27 : decode k_X10_hit.2.1 27 = .ok (.istore_n 2, 1) := by decide +kernel
theorem dX10_hit_28 : decode k_X10_hit.2.1 28 = .ok (.iconst 0, 1) := by decide +kernel
theorem dX10_hit_29 : decode k_X10_hit.2.1 29 = .ok (.istore_n 3, 1) := by decide +kernel
theorem dX10_hit_30 : decode k_X10_hit.2.1 30 = .ok (.iload_n 3, 1) := by decide +kernel
theorem dX10_hit_31 : decode k_X10_hit.2.1 31 = .ok (.aload_n 0, 1) := by decide +kernel
theorem dX10_hit_32 : decode k_X10_hit.2.1 32 = .ok (.getfield 120, 3) := by decide +kernel
theorem dX10_hit_35 : decode k_X10_hit.2.1 35 = .ok (.if_icmp .ge 30, 3) := by decide +kernel
theorem dX10_hit_38 : decode k_X10_hit.2.1 38 = .ok (.aload_n 0, 1) := by decide +kernel
theorem dX10_hit_39 : decode k_X10_hit.2.1 39 = .ok (.iload_n 3, 1) := by decide +kernel
theorem dX10_hit_40 : decode k_X10_hit.2.1 40 = .ok (.invokevirtual 307, 3) := by decide +kernel
theorem dX10_hit_43 : decode k_X10_hit.2.1 43 = .ok (.ifCond .ne 6, 3) := by decide +kernel
theorem dX10_hit_46 : decode k_X10_hit.2.1 46 = .ok (.goto 13, 3) := by decide +kernel
theorem dX10_hit_49 : decode k_X10_hit.2.1 49 = .ok (.iload_n 2, 1) := by decide +kernel
theorem dX10_hit_50 : decode k_X10_hit.2.1 50 = .ok (.iload_n 1, 1) := by decide +kernel
theorem dX10_hit_51 : decode k_X10_hit.2.1 51 = .ok (.if_icmp .ne 5, 3) := by decide +kernel
theorem dX10_hit_54 : decode k_X10_hit.2.1 54 = .ok (.iload_n 3, 1) := by decide +kernel
theorem dX10_hit_55 : decode k_X10_hit.2.1 55 = .ok (.ireturn, 1) := by decide +kernel
theorem dX10_hit_56 : decode k_X10_hit.2.1 56 = .ok (.iinc 2 1, 3) := by decide +kernel
theorem dX10_hit_59 : decode k_X10_hit.2.1 59 = .ok (.iinc 3 1, 3) := by decide +kernel
theorem dX10_hit_62 : decode k_X10_hit.2.1 62 = .ok (.goto (-32), 3) := by decide +kernel
theorem dX10_hit_65 : decode k_X10_hit.2.1 65 = .ok (.iconst (-1), 1) := by decide +kernel
theorem dX10_hit_66 : decode k_X10_hit.2.1 66 = .ok (.ireturn, 1) := by decide +kernel
theorem dX10_crossing_0 : decode k_X10_crossing.2.1 0 = .ok (.iconst 0, 1) := by decide +kernel
theorem dX10_crossing_1 : decode k_X10_crossing.2.1 1 = .ok (.istore_n 1, 1) := by decide +kernel
theorem dX10_crossing_2 : decode k_X10_crossing.2.1 2 = .ok (.iconst 0, 1) := by decide +kernel
theorem dX10_crossing_3 : decode k_X10_crossing.2.1 3 = .ok (.istore_n 2, 1) := by decide +kernel
theorem dX10_crossing_4 : decode k_X10_crossing.2.1 4 = .ok (.iconst 0, 1) := by decide +kernel
theorem dX10_crossing_5 : decode k_X10_crossing.2.1 5 = .ok (.istore_n 3, 1) := by decide +kernel
theorem dX10_crossing_6 : decode k_X10_crossing.2.1 6 = .ok (.iload_n 3, 1) := by decide +kernel
theorem dX10_crossing_7 : decode k_X10_crossing.2.1 7 = .ok (.aload_n 0, 1) := by decide +kernel
theorem dX10_crossing_8 : decode k_X10_crossing.2.1 8 = .ok (.invokevirtual 123, 3) := by decide +kernel
theorem dX10_crossing_11 : decode k_X10_crossing.2.1 11 = .ok (.if_icmp .ge 71, 3) := by decide +kernel
theorem dX10_crossing_14 : decode k_X10_crossing.2.1 14 = .ok (.iload_n 2, 1) := by decide +kernel
theorem dX10_crossing_15 : decode k_X10_crossing.2.1 15 = .ok (.aload_n 0, 1) := by decide +kernel
theorem dX10_crossing_16 : decode k_X10_crossing.2.1 16 = .ok (.getfield 30, 3) := by decide +kernel
theorem dX10_crossing_19 : decode k_X10_crossing.2.1 19 = .ok (.aload_n 0, 1) := by decide +kernel
theorem dX10_crossing_20 : decode k_X10_crossing.2.1 20 = .ok (.iload_n 3, 1) := by decide +kernel
theorem dX10_crossing_21 : decode k_X10_crossing.2.1 21 = .ok (.invokevirtual 127, 3) := by decide +kernel
theorem dX10_crossing_24 : decode k_X10_crossing.2.1 24 = .ok (.iaload, 1) := by decide +kernel
theorem dX10_crossing_25 : decode k_X10_crossing.2.1 25 = .ok (.iadd, 1) := by decide +kernel
theorem dX10_crossing_26 : decode k_X10_crossing.2.1 26 = .ok (.istore 4, 2) := by decide +kernel
theorem dX10_crossing_28 : decode k_X10_crossing.2.1 28 = .ok (.iload_n 2, 1) := by decide +kernel
theorem dX10_crossing_29 : decode k_X10_crossing.2.1 29 = .ok (.istore 5, 2) := by decide +kernel
theorem dX10_crossing_31 : decode k_X10_crossing.2.1 31 = .ok (.iload 5, 2) := by decide +kernel
theorem dX10_crossing_33 : decode k_X10_crossing.2.1 33 = .ok (.iload 4, 2) := by decide +kernel
theorem dX10_crossing_35 : decode k_X10_crossing.2.1 35 = .ok (.if_icmp .ge 38, 3) := by decide +kernel
theorem dX10_crossing_38 : decode k_X10_crossing.2.1 38 = .ok (.iload_n 1, 1) := by decide +kernel
theorem dX10_crossing_39 : decode k_X10_crossing.2.1 39 = .ok (.aload_n 0, 1) := by decide +kernel
theorem dX10_crossing_40 : decode k_X10_crossing.2.1 40 = .ok (.iload 5, 2) := by decide +kernel
theorem dX10_crossing_42 : decode k_X10_crossing.2.1 42 = .ok (.invokevirtual 307, 3) := by decide +kernel
theorem dX10_crossing_45 : decode k_X10_crossing.2.1 45 = .ok (.ifCond .eq 19, 3) := by decide +kernel
theorem dX10_crossing_48 : decode k_X10_crossing.2.1 48 = .ok (.iload 5, 2) := by decide +kernel
theorem dX10_crossing_50 : decode k_X10_crossing.2.1 50 = .ok (.aload_n 0, 1) := by decide +kernel
theorem dX10_crossing_51 : decode k_X10_crossing.2.1 51 = .ok (.getfield 221, 3) := by decide +kernel
theorem dX10_crossing_54 : decode k_X10_crossing.2.1 54 = .ok (.iadd, 1) := by decide +kernel
theorem dX10_crossing_55 : decode k_X10_crossing.2.1 55 = .ok (.iload 4, 2) := by decide +kernel
theorem dX10_crossing_57 : decode k_X10_crossing.2.1 57 = .ok (.if_icmp .le 7, 3) := by decide +kernel
theorem dX10_crossing_60 : decode k_X10_crossing.2.1 60 = .ok (.iconst 1, 1) := by decide +kernel
theorem dX10_crossing_61 : decode k_X10_crossing.2.1 61 = .ok (.goto 4, 3) := by decide +kernel
theorem dX10_crossing_64 : decode k_X10_crossing.2.1 64 = .ok (.iconst 0, 1) := by decide +kernel
theorem dX10_crossing_65 : decode k_X10_crossing.2.1 65 = .ok (.iadd, 1) := by decide +kernel
theorem dX10_crossing_66 : decode k_X10_crossing.2.1 66 = .ok (.istore_n 1, 1) := by decide +kernel
theorem dX10_crossing_67 : decode k_X10_crossing.2.1 67 = .ok (.iinc 5 1, 3) := by decide +kernel
theorem dX10_crossing_70 : decode k_X10_crossing.2.1 70 = .ok (.goto (-39), 3) := by decide +kernel
theorem dX10_crossing_73 : decode k_X10_crossing.2.1 73 = .ok (.iload 4, 2) := by decide +kernel
theorem dX10_crossing_75 : decode k_X10_crossing.2.1 75 = .ok (.istore_n 2, 1) := by decide +kernel
theorem dX10_crossing_76 : decode k_X10_crossing.2.1 76 = .ok (.iinc 3 1, 3) := by decide +kernel
theorem dX10_crossing_79 : decode k_X10_crossing.2.1 79 = .ok (.goto (-73), 3) := by decide +kernel
theorem dX10_crossing_82 : decode k_X10_crossing.2.1 82 = .ok (.iload_n 1, 1) := by decide +kernel
theorem dX10_crossing_83 : decode k_X10_crossing.2.1 83 = .ok (.ireturn, 1) := by decide +kernel
theorem dX10_hits_0 : decode k_X10_hits.2.1 0 = .ok (.aload_n 0, 1) := by decide +kernel
theorem dX10_hits_1 : decode k_X10_hits.2.1 1 = .ok (.iconst 0, 1) := by decide +kernel
theorem dX10_hits_2 : decode k_X10_hits.2.1 2 = .ok (.putfield 1, 3) := by decide +kernel
theorem dX10_hits_5 : decode k_X10_hits.2.1 5 = .ok (.iload_n 1, 1) := by decide +kernel
theorem dX10_hits_6 : decode k_X10_hits.2.1 6 = .ok (.i2l, 1) := by decide +kernel
theorem dX10_hits_7 : decode k_X10_hits.2.1 7 = .ok (.lconst 0, 1) := by decide +kernel
theorem dX10_hits_8 : decode k_X10_hits.2.1 8 = .ok (.ldc2_w 286, 3) := by decide +kernel
theorem dX10_hits_11 : decode k_X10_hits.2.1 11 = .ok (.invokestatic 98, 3) := by decide +kernel
theorem dX10_hits_14 : decode k_X10_hits.2.1 14 = .ok (.ifCond .ne 6, 3) := by decide +kernel
theorem dX10_hits_17 : decode k_X10_hits.2.1 17 = .ok (.bipush (-2), 2) := by decide +kernel
theorem dX10_hits_19 : decode k_X10_hits.2.1 19 = .ok (.ireturn, 1) := by decide +kernel
theorem dX10_hits_20 : decode k_X10_hits.2.1 20 = .ok (.iload_n 1, 1) := by decide +kernel
theorem dX10_hits_21 : decode k_X10_hits.2.1 21 = .ok (.iconst 2, 1) := by decide +kernel
theorem dX10_hits_22 : decode k_X10_hits.2.1 22 = .ok (.if_icmp .ne 8, 3) := by decide +kernel
theorem dX10_hits_25 : decode k_X10_hits.2.1 25 = .ok (.aload_n 0, 1) := by decide +kernel
theorem dX10_hits_26 : decode k_X10_hits.2.1 26 = .ok (.getfield 221, 3) := by decide +kernel
theorem dX10_hits_29 : decode k_X10_hits.2.1 29 = .ok (.ireturn, 1) := by decide +kernel
theorem dX10_hits_30 : decode k_X10_hits.2.1 30 = .ok (.aload_n 0, 1) := by decide +kernel
theorem dX10_hits_31 : decode k_X10_hits.2.1 31 = .ok (.getfield 221, 3) := by decide +kernel
theorem dX10_hits_34 : decode k_X10_hits.2.1 34 = .ok (.ifCond .ne 6, 3) := by decide +kernel
theorem dX10_hits_37 : decode k_X10_hits.2.1 37 = .ok (.bipush (-5), 2) := by decide +kernel
theorem dX10_hits_39 : decode k_X10_hits.2.1 39 = .ok (.ireturn, 1) := by decide +kernel
theorem dX10_hits_40 : decode k_X10_hits.2.1 40 = .ok (.aload_n 0, 1) := by decide +kernel
theorem dX10_hits_41 : decode k_X10_hits.2.1 41 = .ok (.invokevirtual 134, 3) := by decide +kernel
theorem dX10_hits_44 : decode k_X10_hits.2.1 44 = .ok (.aload_n 0, 1) := by decide +kernel
theorem dX10_hits_45 : decode k_X10_hits.2.1 45 = .ok (.invokevirtual 224, 3) := by decide +kernel
theorem dX10_hits_48 : decode k_X10_hits.2.1 48 = .ok (.iload_n 1, 1) := by decide +kernel
theorem dX10_hits_49 : decode k_X10_hits.2.1 49 = .ok (.ifCond .ne 10, 3) := by decide +kernel
theorem dX10_hits_52 : decode k_X10_hits.2.1 52 = .ok (.aload_n 0, 1) := by decide +kernel
theorem dX10_hits_53 : decode k_X10_hits.2.1 53 = .ok (.invokevirtual 227, 3) := by decide +kernel
theorem dX10_hits_56 : decode k_X10_hits.2.1 56 = .ok (.goto 7, 3) := by decide +kernel
theorem dX10_hits_59 : decode k_X10_hits.2.1 59 = .ok (.aload_n 0, 1) := by decide +kernel
theorem dX10_hits_60 : decode k_X10_hits.2.1 60 = .ok (.invokevirtual 310, 3) := by decide +kernel
theorem dX10_hits_63 : decode k_X10_hits.2.1 63 = .ok (.ireturn, 1) := by decide +kernel
theorem dX10_gainOf_0 : decode k_X10_gainOf.2.1 0 = .ok (.aload_n 0, 1) := by decide +kernel
theorem dX10_gainOf_1 : decode k_X10_gainOf.2.1 1 = .ok (.iload_n 1, 1) := by decide +kernel
theorem dX10_gainOf_2 : decode k_X10_gainOf.2.1 2 = .ok (.iload_n 2, 1) := by decide +kernel
theorem dX10_gainOf_3 : decode k_X10_gainOf.2.1 3 = .ok (.invokevirtual 249, 3) := by decide +kernel
theorem dX10_gainOf_6 : decode k_X10_gainOf.2.1 6 = .ok (.aload_n 0, 1) := by decide +kernel
theorem dX10_gainOf_7 : decode k_X10_gainOf.2.1 7 = .ok (.iload_n 1, 1) := by decide +kernel
theorem dX10_gainOf_8 : decode k_X10_gainOf.2.1 8 = .ok (.iload_n 2, 1) := by decide +kernel
theorem dX10_gainOf_9 : decode k_X10_gainOf.2.1 9 = .ok (.invokevirtual 230, 3) := by decide +kernel
theorem dX10_gainOf_12 : decode k_X10_gainOf.2.1 12 = .ok (.iconst (-1), 1) := by decide +kernel
theorem dX10_gainOf_13 : decode k_X10_gainOf.2.1 13 = .ok (.if_icmp .ne 7, 3) := by decide +kernel
theorem dX10_gainOf_16 : decode k_X10_gainOf.2.1 16 = .ok (.iconst 2, 1) := by decide +kernel
theorem dX10_gainOf_17 : decode k_X10_gainOf.2.1 17 = .ok (.goto 4, 3) := by decide +kernel
theorem dX10_gainOf_20 : decode k_X10_gainOf.2.1 20 = .ok (.iconst 0, 1) := by decide +kernel
theorem dX10_gainOf_21 : decode k_X10_gainOf.2.1 21 = .ok (.isub, 1) := by decide +kernel
theorem dX10_gainOf_22 : decode k_X10_gainOf.2.1 22 = .ok (.ireturn, 1) := by decide +kernel
theorem dX10_gain_0 : decode k_X10_gain.2.1 0 = .ok (.aload_n 0, 1) := by decide +kernel
theorem dX10_gain_1 : decode k_X10_gain.2.1 1 = .ok (.iconst 0, 1) := by decide +kernel
theorem dX10_gain_2 : decode k_X10_gain.2.1 2 = .ok (.putfield 1, 3) := by decide +kernel
theorem dX10_gain_5 : decode k_X10_gain.2.1 5 = .ok (.aload_n 0, 1) := by decide +kernel
theorem dX10_gain_6 : decode k_X10_gain.2.1 6 = .ok (.iload_n 1, 1) := by decide +kernel
theorem dX10_gain_7 : decode k_X10_gain.2.1 7 = .ok (.invokevirtual 210, 3) := by decide +kernel
theorem dX10_gain_10 : decode k_X10_gain.2.1 10 = .ok (.ifCond .eq 11, 3) := by decide +kernel
theorem dX10_gain_13 : decode k_X10_gain.2.1 13 = .ok (.aload_n 0, 1) := by decide +kernel
theorem dX10_gain_14 : decode k_X10_gain.2.1 14 = .ok (.iload_n 2, 1) := by decide +kernel
theorem dX10_gain_15 : decode k_X10_gain.2.1 15 = .ok (.invokevirtual 210, 3) := by decide +kernel
theorem dX10_gain_18 : decode k_X10_gain.2.1 18 = .ok (.ifCond .ne 6, 3) := by decide +kernel
theorem dX10_gain_21 : decode k_X10_gain.2.1 21 = .ok (.bipush (-2), 2) := by decide +kernel
theorem dX10_gain_23 : decode k_X10_gain.2.1 23 = .ok (.ireturn, 1) := by decide +kernel
theorem dX10_gain_24 : decode k_X10_gain.2.1 24 = .ok (.aload_n 0, 1) := by decide +kernel
theorem dX10_gain_25 : decode k_X10_gain.2.1 25 = .ok (.iload_n 1, 1) := by decide +kernel
theorem dX10_gain_26 : decode k_X10_gain.2.1 26 = .ok (.iload_n 2, 1) := by decide +kernel
theorem dX10_gain_27 : decode k_X10_gain.2.1 27 = .ok (.invokevirtual 249, 3) := by decide +kernel
theorem dX10_gain_30 : decode k_X10_gain.2.1 30 = .ok (.ifCond .ne 8, 3) := by decide +kernel
theorem dX10_gain_33 : decode k_X10_gain.2.1 33 = .ok (.bipush (-5), 2) := by decide +kernel
theorem dX10_gain_35 : decode k_X10_gain.2.1 35 = .ok (.goto 9, 3) := by decide +kernel
theorem dX10_gain_38 : decode k_X10_gain.2.1 38 = .ok (.aload_n 0, 1) := by decide +kernel
theorem dX10_gain_39 : decode k_X10_gain.2.1 39 = .ok (.iload_n 1, 1) := by decide +kernel
theorem dX10_gain_40 : decode k_X10_gain.2.1 40 = .ok (.iload_n 2, 1) := by decide +kernel
theorem dX10_gain_41 : decode k_X10_gain.2.1 41 = .ok (.invokevirtual 313, 3) := by decide +kernel
theorem dX10_gain_44 : decode k_X10_gain.2.1 44 = .ok (.ireturn, 1) := by decide +kernel
theorem dX10_leastBehind_0 : decode k_X10_leastBehind.2.1 0 = .ok (.aload_n 0, 1) := by decide +kernel
theorem dX10_leastBehind_1 : decode k_X10_leastBehind.2.1 1 = .ok (.invokevirtual 264, 3) := by decide +kernel
theorem dX10_leastBehind_4 : decode k_X10_leastBehind.2.1 4 = .ok (.istore_n 2, 1) := by decide +kernel
theorem dX10_leastBehind_5 : decode k_X10_leastBehind.2.1 5 = .ok (.iload_n 1, 1) := by decide +kernel
theorem dX10_leastBehind_6 : decode k_X10_leastBehind.2.1 6 = .ok (.ifCond .ne 5, 3) := by decide +kernel
theorem dX10_leastBehind_9 : decode k_X10_leastBehind.2.1 9 = .ok (.iload_n 2, 1) := by decide +kernel
theorem dX10_leastBehind_10 : decode k_X10_leastBehind.2.1 10 = .ok (.ireturn, 1) := by decide +kernel
theorem dX10_leastBehind_11 : decode k_X10_leastBehind.2.1 11 = .ok (.aload_n 0, 1) := by decide +kernel
theorem dX10_leastBehind_12 : decode k_X10_leastBehind.2.1 12 = .ok (.getfield 13, 3) := by decide +kernel
theorem dX10_leastBehind_15 : decode k_X10_leastBehind.2.1 15 = .ok (.iconst 0, 1) := by decide +kernel
theorem dX10_leastBehind_16 : decode k_X10_leastBehind.2.1 16 = .ok (.aload_n 0, 1) := by decide +kernel
theorem dX10_leastBehind_17 : decode k_X10_leastBehind.2.1 17 = .ok (.getfield 23, 3) := by decide +kernel
theorem dX10_leastBehind_20 : decode k_X10_leastBehind.2.1 20 = .ok (.sipush 1021, 3) := by decide +kernel
theorem dX10_leastBehind_23 : decode k_X10_leastBehind.2.1 23 = .ok (.iload_n 1, 1) := by decide +kernel
theorem dX10_leastBehind_24 : decode k_X10_leastBehind.2.1 24 = .ok (.imul, 1) := by decide +kernel
theorem dX10_leastBehind_25 : decode k_X10_leastBehind.2.1 25 = .ok (.sipush 1021, 3) := by decide +kernel
theorem dX10_leastBehind_28 : decode k_X10_leastBehind.2.1 28 = .ok (.invokestatic 88, 3) := by decide +kernel
theorem dX10_leastBehind_31 : decode k_X10_leastBehind.2.1 31 = .ok (.iconst 0, 1) := by decide +kernel
theorem dX10_leastBehind_32 : decode k_X10_leastBehind.2.1 32 = .ok (.istore_n 3, 1) := by decide +kernel
theorem dX10_leastBehind_33 : decode k_X10_leastBehind.2.1 33 = .ok (.iload_n 3, 1) := by decide +kernel
theorem dX10_leastBehind_34 : decode k_X10_leastBehind.2.1 34 = .ok (.iconst 1, 1) := by decide +kernel
theorem dX10_leastBehind_35 : decode k_X10_leastBehind.2.1 35 = .ok (.iadd, 1) := by decide +kernel
theorem dX10_leastBehind_36 : decode k_X10_leastBehind.2.1 36 = .ok (.aload_n 0, 1) := by decide +kernel
theorem dX10_leastBehind_37 : decode k_X10_leastBehind.2.1 37 = .ok (.invokevirtual 123, 3) := by decide +kernel
theorem dX10_leastBehind_40 : decode k_X10_leastBehind.2.1 40 = .ok (.if_icmp .ge 89, 3) := by decide +kernel
theorem dX10_leastBehind_43 : decode k_X10_leastBehind.2.1 43 = .ok (.aload_n 0, 1) := by decide +kernel
theorem dX10_leastBehind_44 : decode k_X10_leastBehind.2.1 44 = .ok (.iload_n 3, 1) := by decide +kernel
theorem dX10_leastBehind_45 : decode k_X10_leastBehind.2.1 45 = .ok (.invokevirtual 127, 3) := by decide +kernel
theorem dX10_leastBehind_48 : decode k_X10_leastBehind.2.1 48 = .ok (.istore 4, 2) := by decide +kernel
theorem dX10_leastBehind_50 : decode k_X10_leastBehind.2.1 50 = .ok (.aload_n 0, 1) := by decide +kernel
theorem dX10_leastBehind_51 : decode k_X10_leastBehind.2.1 51 = .ok (.iload_n 3, 1) := by decide +kernel
theorem dX10_leastBehind_52 : decode k_X10_leastBehind.2.1 52 = .ok (.iconst 1, 1) := by decide +kernel
theorem dX10_leastBehind_53 : decode k_X10_leastBehind.2.1 53 = .ok (.iadd, 1) := by decide +kernel
theorem dX10_leastBehind_54 : decode k_X10_leastBehind.2.1 54 = .ok (.invokevirtual 127, 3) := by decide +kernel
theorem dX10_leastBehind_57 : decode k_X10_leastBehind.2.1 57 = .ok (.istore 5, 2) := by decide +kernel
theorem dX10_leastBehind_59 : decode k_X10_leastBehind.2.1 59 = .ok (.aload_n 0, 1) := by decide +kernel
theorem dX10_leastBehind_60 : decode k_X10_leastBehind.2.1 60 = .ok (.iload_n 3, 1) := by decide +kernel
theorem dX10_leastBehind_61 : decode k_X10_leastBehind.2.1 61 = .ok (.invokevirtual 316, 3) := by decide +kernel
theorem dX10_leastBehind_64 : decode k_X10_leastBehind.2.1 64 = .ok (.ifCond .eq 59, 3) := by decide +kernel
theorem dX10_leastBehind_67 : decode k_X10_leastBehind.2.1 67 = .ok (.aload_n 0, 1) := by decide +kernel
theorem dX10_leastBehind_68 : decode k_X10_leastBehind.2.1 68 = .ok (.iload 4, 2) := by decide +kernel
theorem dX10_leastBehind_70 : decode k_X10_leastBehind.2.1 70 = .ok (.iload 5, 2) := by decide +kernel
theorem dX10_leastBehind_72 : decode k_X10_leastBehind.2.1 72 = .ok (.invokevirtual 242, 3) := by decide +kernel
theorem dX10_leastBehind_75 : decode k_X10_leastBehind.2.1 75 = .ok (.ifCond .ne 6, 3) := by decide +kernel
theorem dX10_leastBehind_78 : decode k_X10_leastBehind.2.1 78 = .ok (.goto 45, 3) := by decide +kernel
theorem dX10_leastBehind_81 : decode k_X10_leastBehind.2.1 81 = .ok (.aload_n 0, 1) := by decide +kernel
theorem dX10_leastBehind_82 : decode k_X10_leastBehind.2.1 82 = .ok (.iload 4, 2) := by decide +kernel
theorem dX10_leastBehind_84 : decode k_X10_leastBehind.2.1 84 = .ok (.iload 5, 2) := by decide +kernel
theorem dX10_leastBehind_86 : decode k_X10_leastBehind.2.1 86 = .ok (.invokevirtual 246, 3) := by decide +kernel
theorem dX10_leastBehind_89 : decode k_X10_leastBehind.2.1 89 = .ok (.istore 6, 2) := by decide +kernel
theorem dX10_leastBehind_91 : decode k_X10_leastBehind.2.1 91 = .ok (.iload_n 2, 1) := by decide +kernel
theorem dX10_leastBehind_92 : decode k_X10_leastBehind.2.1 92 = .ok (.aload_n 0, 1) := by decide +kernel
theorem dX10_leastBehind_93 : decode k_X10_leastBehind.2.1 93 = .ok (.iload_n 1, 1) := by decide +kernel
theorem dX10_leastBehind_94 : decode k_X10_leastBehind.2.1 94 = .ok (.iconst 1, 1) := by decide +kernel
theorem dX10_leastBehind_95 : decode k_X10_leastBehind.2.1 95 = .ok (.isub, 1) := by decide +kernel
theorem dX10_leastBehind_96 : decode k_X10_leastBehind.2.1 96 = .ok (.invokevirtual 319, 3) := by decide +kernel
theorem dX10_leastBehind_99 : decode k_X10_leastBehind.2.1 99 = .ok (.invokestatic 204, 3) := by decide +kernel
theorem dX10_leastBehind_102 : decode k_X10_leastBehind.2.1 102 = .ok (.istore_n 2, 1) := by decide +kernel
theorem dX10_leastBehind_103 : decode k_X10_leastBehind.2.1 103 = .ok (.aload_n 0, 1) := by decide +kernel
theorem dX10_leastBehind_104 : decode k_X10_leastBehind.2.1 104 = .ok (.getfield 23, 3) := by decide +kernel
theorem dX10_leastBehind_107 : decode k_X10_leastBehind.2.1 107 = .ok (.sipush 1021, 3) := by decide +kernel
theorem dX10_leastBehind_110 : decode k_X10_leastBehind.2.1 110 = .ok (.iload_n 1, 1) := by decide +kernel
theorem dX10_leastBehind_111 : decode k_X10_leastBehind.2.1 111 = .ok (.imul, 1) := by decide +kernel
theorem dX10_leastBehind_112 : decode k_X10_leastBehind.2.1 112 = .ok (.aload_n 0, 1) := by decide +kernel
theorem dX10_leastBehind_113 : decode k_X10_leastBehind.2.1 113 = .ok (.getfield 13, 3) := by decide +kernel
theorem dX10_leastBehind_116 : decode k_X10_leastBehind.2.1 116 = .ok (.iconst 0, 1) := by decide +kernel
theorem dX10_leastBehind_117 : decode k_X10_leastBehind.2.1 117 = .ok (.sipush 1021, 3) := by decide +kernel
theorem dX10_leastBehind_120 : decode k_X10_leastBehind.2.1 120 = .ok (.invokestatic 88, 3) := by decide +kernel
theorem dX10_leastBehind_123 : decode k_X10_leastBehind.2.1 123 = .ok (.iinc 3 1, 3) := by decide +kernel
theorem dX10_leastBehind_126 : decode k_X10_leastBehind.2.1 126 = .ok (.goto (-93), 3) := by decide +kernel
theorem dX10_leastBehind_129 : decode k_X10_leastBehind.2.1 129 = .ok (.iload_n 2, 1) := by decide +kernel
theorem dX10_leastBehind_130 : decode k_X10_leastBehind.2.1 130 = .ok (.ireturn, 1) := by decide +kernel
theorem dX10_isFirst_0 : decode k_X10_isFirst.2.1 0 = .ok (.iconst 0, 1) := by decide +kernel
theorem dX10_isFirst_1 : decode k_X10_isFirst.2.1 1 = .ok (.istore_n 2, 1) := by decide +kernel
theorem dX10_isFirst_2 : decode k_X10_isFirst.2.1 2 = .ok (.iload_n 2, 1) := by decide +kernel
theorem dX10_isFirst_3 : decode k_X10_isFirst.2.1 3 = .ok (.iload_n 1, 1) := by decide +kernel
theorem dX10_isFirst_4 : decode k_X10_isFirst.2.1 4 = .ok (.if_icmp .ge 41, 3) := by decide +kernel
theorem dX10_isFirst_7 : decode k_X10_isFirst.2.1 7 = .ok (.aload_n 0, 1) := by decide +kernel
theorem dX10_isFirst_8 : decode k_X10_isFirst.2.1 8 = .ok (.iload_n 2, 1) := by decide +kernel
theorem dX10_isFirst_9 : decode k_X10_isFirst.2.1 9 = .ok (.invokevirtual 127, 3) := by decide +kernel
theorem dX10_isFirst_12 : decode k_X10_isFirst.2.1 12 = .ok (.aload_n 0, 1) := by decide +kernel
theorem dX10_isFirst_13 : decode k_X10_isFirst.2.1 13 = .ok (.iload_n 1, 1) := by decide +kernel
theorem dX10_isFirst_14 : decode k_X10_isFirst.2.1 14 = .ok (.invokevirtual 127, 3) := by decide +kernel
theorem dX10_isFirst_17 : decode k_X10_isFirst.2.1 17 = .ok (.if_icmp .ne 22, 3) := by decide +kernel
theorem dX10_isFirst_20 : decode k_X10_isFirst.2.1 20 = .ok (.aload_n 0, 1) := by decide +kernel
theorem dX10_isFirst_21 : decode k_X10_isFirst.2.1 21 = .ok (.iload_n 2, 1) := by decide +kernel
theorem dX10_isFirst_22 : decode k_X10_isFirst.2.1 22 = .ok (.iconst 1, 1) := by decide +kernel
theorem dX10_isFirst_23 : decode k_X10_isFirst.2.1 23 = .ok (.iadd, 1) := by decide +kernel
theorem dX10_isFirst_24 : decode k_X10_isFirst.2.1 24 = .ok (.invokevirtual 127, 3) := by decide +kernel
theorem dX10_isFirst_27 : decode k_X10_isFirst.2.1 27 = .ok (.aload_n 0, 1) := by decide +kernel
theorem dX10_isFirst_28 : decode k_X10_isFirst.2.1 28 = .ok (.iload_n 1, 1) := by decide +kernel
theorem dX10_isFirst_29 : decode k_X10_isFirst.2.1 29 = .ok (.iconst 1, 1) := by decide +kernel
theorem dX10_isFirst_30 : decode k_X10_isFirst.2.1 30 = .ok (.iadd, 1) := by decide +kernel
theorem dX10_isFirst_31 : decode k_X10_isFirst.2.1 31 = .ok (.invokevirtual 127, 3) := by decide +kernel
theorem dX10_isFirst_34 : decode k_X10_isFirst.2.1 34 = .ok (.if_icmp .ne 5, 3) := by decide +kernel
theorem dX10_isFirst_37 : decode k_X10_isFirst.2.1 37 = .ok (.iconst 0, 1) := by decide +kernel
theorem dX10_isFirst_38 : decode k_X10_isFirst.2.1 38 = .ok (.ireturn, 1) := by decide +kernel
theorem dX10_isFirst_39 : decode k_X10_isFirst.2.1 39 = .ok (.iinc 2 1, 3) := by decide +kernel
theorem dX10_isFirst_42 : decode k_X10_isFirst.2.1 42 = .ok (.goto (-40), 3) := by decide +kernel
theorem dX10_isFirst_45 : decode k_X10_isFirst.2.1 45 = .ok (.iconst 1, 1) := by decide +kernel
theorem dX10_isFirst_46 : decode k_X10_isFirst.2.1 46 = .ok (.ireturn, 1) := by decide +kernel
theorem dX10_best_0 : decode k_X10_best.2.1 0 = .ok (.aload_n 0, 1) := by decide +kernel
theorem dX10_best_1 : decode k_X10_best.2.1 1 = .ok (.iconst 0, 1) := by decide +kernel
theorem dX10_best_2 : decode k_X10_best.2.1 2 = .ok (.putfield 1, 3) := by decide +kernel
theorem dX10_best_5 : decode k_X10_best.2.1 5 = .ok (.iload_n 1, 1) := by decide +kernel
theorem dX10_best_6 : decode k_X10_best.2.1 6 = .ok (.i2l, 1) := by decide +kernel
theorem dX10_best_7 : decode k_X10_best.2.1 7 = .ok (.lconst 0, 1) := by decide +kernel
theorem dX10_best_8 : decode k_X10_best.2.1 8 = .ok (.ldc2_w 286, 3) := by decide +kernel
theorem dX10_best_11 : decode k_X10_best.2.1 11 = .ok (.invokestatic 98, 3) := by decide +kernel
theorem dX10_best_14 : decode k_X10_best.2.1 14 = .ok (.ifCond .eq 11, 3) := by decide +kernel
theorem dX10_best_17 : decode k_X10_best.2.1 17 = .ok (.aload_n 0, 1) := by decide +kernel
theorem dX10_best_18 : decode k_X10_best.2.1 18 = .ok (.iload_n 1, 1) := by decide +kernel
theorem dX10_best_19 : decode k_X10_best.2.1 19 = .ok (.invokevirtual 319, 3) := by decide +kernel
theorem dX10_best_22 : decode k_X10_best.2.1 22 = .ok (.goto 5, 3) := by decide +kernel
theorem dX10_best_25 : decode k_X10_best.2.1 25 = .ok (.bipush (-3), 2) := by decide +kernel
theorem dX10_best_27 : decode k_X10_best.2.1 27 = .ok (.ireturn, 1) := by decide +kernel
theorem dX10_bitsOf_0 : decode k_X10_bitsOf.2.1 0 = .ok (.fload_n 0, 1) := by decide +kernel
theorem dX10_bitsOf_1 : decode k_X10_bitsOf.2.1 1 = .ok (.fconst 0, 1) := by decide +kernel
theorem dX10_bitsOf_2 : decode k_X10_bitsOf.2.1 2 = .ok (.fcmp .l, 1) := by decide +kernel
theorem dX10_bitsOf_3 : decode k_X10_bitsOf.2.1 3 = .ok (.ifCond .ne 5, 3) := by decide +kernel
theorem dX10_bitsOf_6 : decode k_X10_bitsOf.2.1 6 = .ok (.iconst 0, 1) := by decide +kernel
theorem dX10_bitsOf_7 : decode k_X10_bitsOf.2.1 7 = .ok (.ireturn, 1) := by decide +kernel
theorem dX10_bitsOf_8 : decode k_X10_bitsOf.2.1 8 = .ok (.fload_n 0, 1) := by decide +kernel
theorem dX10_bitsOf_9 : decode k_X10_bitsOf.2.1 9 = .ok (.fstore_n 1, 1) := by decide +kernel
theorem dX10_bitsOf_10 : decode k_X10_bitsOf.2.1 10 = .ok (.bipush 127, 2) := by decide +kernel
theorem dX10_bitsOf_12 : decode k_X10_bitsOf.2.1 12 = .ok (.istore_n 2, 1) := by decide +kernel
theorem dX10_bitsOf_13 : decode k_X10_bitsOf.2.1 13 = .ok (.fload_n 1, 1) := by decide +kernel
theorem dX10_bitsOf_14 : decode k_X10_bitsOf.2.1 14 = .ok (.fconst 2, 1) := by decide +kernel
theorem dX10_bitsOf_15 : decode k_X10_bitsOf.2.1 15 = .ok (.fcmp .l, 1) := by decide +kernel
theorem dX10_bitsOf_16 : decode k_X10_bitsOf.2.1 16 = .ok (.ifCond .lt 15, 3) := by decide +kernel
theorem dX10_bitsOf_19 : decode k_X10_bitsOf.2.1 19 = .ok (.fload_n 1, 1) := by decide +kernel
theorem dX10_bitsOf_20 : decode k_X10_bitsOf.2.1 20 = .ok (.ldc_w 322, 3) := by decide +kernel
theorem dX10_bitsOf_23 : decode k_X10_bitsOf.2.1 23 = .ok (.fmul, 1) := by decide +kernel
theorem dX10_bitsOf_24 : decode k_X10_bitsOf.2.1 24 = .ok (.fstore_n 1, 1) := by decide +kernel
theorem dX10_bitsOf_25 : decode k_X10_bitsOf.2.1 25 = .ok (.iinc 2 1, 3) := by decide +kernel
theorem dX10_bitsOf_28 : decode k_X10_bitsOf.2.1 28 = .ok (.goto (-15), 3) := by decide +kernel
theorem dX10_bitsOf_31 : decode k_X10_bitsOf.2.1 31 = .ok (.fload_n 1, 1) := by decide +kernel
theorem dX10_bitsOf_32 : decode k_X10_bitsOf.2.1 32 = .ok (.fconst 1, 1) := by decide +kernel
theorem dX10_bitsOf_33 : decode k_X10_bitsOf.2.1 33 = .ok (.fcmp .g, 1) := by decide +kernel
theorem dX10_bitsOf_34 : decode k_X10_bitsOf.2.1 34 = .ok (.ifCond .ge 13, 3) := by decide +kernel
theorem dX10_bitsOf_37 : decode k_X10_bitsOf.2.1 37 = .ok (.fload_n 1, 1) := by decide +kernel
theorem dX10_bitsOf_38 : decode k_X10_bitsOf.2.1 38 = .ok (.fconst 2, 1) := by decide +kernel
theorem dX10_bitsOf_39 : decode k_X10_bitsOf.2.1 39 = .ok (.fmul, 1) := by decide +kernel
theorem dX10_bitsOf_40 : decode k_X10_bitsOf.2.1 40 = .ok (.fstore_n 1, 1) := by decide +kernel
theorem dX10_bitsOf_41 : decode k_X10_bitsOf.2.1 41 = .ok (.iinc 2 (-1), 3) := by decide +kernel
theorem dX10_bitsOf_44 : decode k_X10_bitsOf.2.1 44 = .ok (.goto (-13), 3) := by decide +kernel
theorem dX10_bitsOf_47 : decode k_X10_bitsOf.2.1 47 = .ok (.iload_n 2, 1) := by decide +kernel
theorem dX10_bitsOf_48 : decode k_X10_bitsOf.2.1 48 = .ok (.bipush 23, 2) := by decide +kernel
theorem dX10_bitsOf_50 : decode k_X10_bitsOf.2.1 50 = .ok (.ishl, 1) := by decide +kernel
theorem dX10_bitsOf_51 : decode k_X10_bitsOf.2.1 51 = .ok (.fload_n 1, 1) := by decide +kernel
theorem dX10_bitsOf_52 : decode k_X10_bitsOf.2.1 52 = .ok (.fconst 1, 1) := by decide +kernel
theorem dX10_bitsOf_53 : decode k_X10_bitsOf.2.1 53 = .ok (.fsub, 1) := by decide +kernel
theorem dX10_bitsOf_54 : decode k_X10_bitsOf.2.1 54 = .ok (.ldc_w 323, 3) := by decide +kernel
theorem dX10_bitsOf_57 : decode k_X10_bitsOf.2.1 57 = .ok (.fmul, 1) := by decide +kernel
theorem dX10_bitsOf_58 : decode k_X10_bitsOf.2.1 58 = .ok (.f2i, 1) := by decide +kernel
theorem dX10_bitsOf_59 : decode k_X10_bitsOf.2.1 59 = .ok (.iadd, 1) := by decide +kernel
theorem dX10_bitsOf_60 : decode k_X10_bitsOf.2.1 60 = .ok (.ireturn, 1) := by decide +kernel
theorem dX10_floatOf_0 : decode k_X10_floatOf.2.1 0 = .ok (.aload_n 0, 1) := by decide +kernel
theorem dX10_floatOf_1 : decode k_X10_floatOf.2.1 1 = .ok (.invokevirtual 134, 3) := by decide +kernel
theorem dX10_floatOf_4 : decode k_X10_floatOf.2.1 4 = .ok (.aload_n 0, 1) := by decide +kernel
theorem dX10_floatOf_5 : decode k_X10_floatOf.2.1 5 = .ok (.invokevirtual 224, 3) := by decide +kernel
theorem dX10_floatOf_8 : decode k_X10_floatOf.2.1 8 = .ok (.aload_n 0, 1) := by decide +kernel
theorem dX10_floatOf_9 : decode k_X10_floatOf.2.1 9 = .ok (.getfield 120, 3) := by decide +kernel
theorem dX10_floatOf_12 : decode k_X10_floatOf.2.1 12 = .ok (.ifCond .ne 5, 3) := by decide +kernel
theorem dX10_floatOf_15 : decode k_X10_floatOf.2.1 15 = .ok (.fconst 0, 1) := by decide +kernel
theorem dX10_floatOf_16 : decode k_X10_floatOf.2.1 16 = .ok (.freturn, 1) := by decide +kernel
theorem dX10_floatOf_17 : decode k_X10_floatOf.2.1 17 = .ok (.iload_n 1, 1) := by decide +kernel
theorem dX10_floatOf_18 : decode k_X10_floatOf.2.1 18 = .ok (.ifCond .ne 15, 3) := by decide +kernel
theorem dX10_floatOf_21 : decode k_X10_floatOf.2.1 21 = .ok (.aload_n 0, 1) := by decide +kernel
theorem dX10_floatOf_22 : decode k_X10_floatOf.2.1 22 = .ok (.invokevirtual 264, 3) := by decide +kernel
theorem dX10_floatOf_25 : decode k_X10_floatOf.2.1 25 = .ok (.i2f, 1) := by decide +kernel
theorem dX10_floatOf_26 : decode k_X10_floatOf.2.1 26 = .ok (.aload_n 0, 1) := by decide +kernel
theorem dX10_floatOf_27 : decode k_X10_floatOf.2.1 27 = .ok (.getfield 120, 3) := by decide +kernel
theorem dX10_floatOf_30 : decode k_X10_floatOf.2.1 30 = .ok (.i2f, 1) := by decide +kernel
theorem dX10_floatOf_31 : decode k_X10_floatOf.2.1 31 = .ok (.fdiv, 1) := by decide +kernel
theorem dX10_floatOf_32 : decode k_X10_floatOf.2.1 32 = .ok (.freturn, 1) := by decide +kernel
theorem dX10_floatOf_33 : decode k_X10_floatOf.2.1 33 = .ok (.iload_n 1, 1) := by decide +kernel
theorem dX10_floatOf_34 : decode k_X10_floatOf.2.1 34 = .ok (.iconst 1, 1) := by decide +kernel
theorem dX10_floatOf_35 : decode k_X10_floatOf.2.1 35 = .ok (.if_icmp .ne 39, 3) := by decide +kernel
theorem dX10_floatOf_38 : decode k_X10_floatOf.2.1 38 = .ok (.iconst 0, 1) := by decide +kernel
theorem dX10_floatOf_39 : decode k_X10_floatOf.2.1 39 = .ok (.istore_n 2, 1) := by decide +kernel
theorem dX10_floatOf_40 : decode k_X10_floatOf.2.1 40 = .ok (.iconst 0, 1) := by decide +kernel
theorem dX10_floatOf_41 : decode k_X10_floatOf.2.1 41 = .ok (.istore_n 3, 1) := by decide +kernel
theorem dX10_floatOf_42 : decode k_X10_floatOf.2.1 42 = .ok (.iload_n 3, 1) := by decide +kernel
theorem dX10_floatOf_43 : decode k_X10_floatOf.2.1 43 = .ok (.aload_n 0, 1) := by decide +kernel
theorem dX10_floatOf_44 : decode k_X10_floatOf.2.1 44 = .ok (.getfield 120, 3) := by decide +kernel
theorem dX10_floatOf_47 : decode k_X10_floatOf.2.1 47 = .ok (.if_icmp .ge 18, 3) := by decide +kernel
theorem dX10_floatOf_50 : decode k_X10_floatOf.2.1 50 = .ok (.iload_n 2, 1) := by decide +kernel
theorem dX10_floatOf_51 : decode k_X10_floatOf.2.1 51 = .ok (.aload_n 0, 1) := by decide +kernel
theorem dX10_floatOf_52 : decode k_X10_floatOf.2.1 52 = .ok (.getfield 39, 3) := by decide +kernel
theorem dX10_floatOf_55 : decode k_X10_floatOf.2.1 55 = .ok (.iload_n 3, 1) := by decide +kernel
theorem dX10_floatOf_56 : decode k_X10_floatOf.2.1 56 = .ok (.iaload, 1) := by decide +kernel
theorem dX10_floatOf_57 : decode k_X10_floatOf.2.1 57 = .ok (.iadd, 1) := by decide +kernel
theorem dX10_floatOf_58 : decode k_X10_floatOf.2.1 58 = .ok (.istore_n 2, 1) := by decide +kernel
theorem dX10_floatOf_59 : decode k_X10_floatOf.2.1 59 = .ok (.iinc 3 1, 3) := by decide +kernel
theorem dX10_floatOf_62 : decode k_X10_floatOf.2.1 62 = .ok (.goto (-20), 3) := by decide +kernel
theorem dX10_floatOf_65 : decode k_X10_floatOf.2.1 65 = .ok (.iload_n 2, 1) := by decide +kernel
theorem dX10_floatOf_66 : decode k_X10_floatOf.2.1 66 = .ok (.i2f, 1) := by decide +kernel
theorem dX10_floatOf_67 : decode k_X10_floatOf.2.1 67 = .ok (.aload_n 0, 1) := by decide +kernel
theorem dX10_floatOf_68 : decode k_X10_floatOf.2.1 68 = .ok (.getfield 120, 3) := by decide +kernel
theorem dX10_floatOf_71 : decode k_X10_floatOf.2.1 71 = .ok (.i2f, 1) := by decide +kernel
theorem dX10_floatOf_72 : decode k_X10_floatOf.2.1 72 = .ok (.fdiv, 1) := by decide +kernel
theorem dX10_floatOf_73 : decode k_X10_floatOf.2.1 73 = .ok (.freturn, 1) := by decide +kernel
theorem dX10_floatOf_74 : decode k_X10_floatOf.2.1 74 = .ok (.fconst 0, 1) := by decide +kernel
theorem dX10_floatOf_75 : decode k_X10_floatOf.2.1 75 = .ok (.fstore_n 2, 1) := by decide +kernel
theorem dX10_floatOf_76 : decode k_X10_floatOf.2.1 76 = .ok (.iconst 0, 1) := by decide +kernel
theorem dX10_floatOf_77 : decode k_X10_floatOf.2.1 77 = .ok (.istore_n 3, 1) := by decide +kernel
theorem dX10_floatOf_78 : decode k_X10_floatOf.2.1 78 = .ok (.iload_n 3, 1) := by decide +kernel
theorem dX10_floatOf_79 : decode k_X10_floatOf.2.1 79 = .ok (.aload_n 0, 1) := by decide +kernel
theorem dX10_floatOf_80 : decode k_X10_floatOf.2.1 80 = .ok (.invokevirtual 123, 3) := by decide +kernel
theorem dX10_floatOf_83 : decode k_X10_floatOf.2.1 83 = .ok (.if_icmp .ge 31, 3) := by decide +kernel
theorem dX10_floatOf_86 : decode k_X10_floatOf.2.1 86 = .ok (.fload_n 2, 1) := by decide +kernel
theorem dX10_floatOf_87 : decode k_X10_floatOf.2.1 87 = .ok (.ldc_w 322, 3) := by decide +kernel
theorem dX10_floatOf_90 : decode k_X10_floatOf.2.1 90 = .ok (.fmul, 1) := by decide +kernel
theorem dX10_floatOf_91 : decode k_X10_floatOf.2.1 91 = .ok (.aload_n 0, 1) := by decide +kernel
theorem dX10_floatOf_92 : decode k_X10_floatOf.2.1 92 = .ok (.getfield 30, 3) := by decide +kernel
theorem dX10_floatOf_95 : decode k_X10_floatOf.2.1 95 = .ok (.aload_n 0, 1) := by decide +kernel
theorem dX10_floatOf_96 : decode k_X10_floatOf.2.1 96 = .ok (.iload_n 3, 1) := by decide +kernel
theorem dX10_floatOf_97 : decode k_X10_floatOf.2.1 97 = .ok (.invokevirtual 127, 3) := by decide +kernel
theorem dX10_floatOf_100 : decode k_X10_floatOf.2.1 100 = .ok (.iaload, 1) := by decide +kernel
theorem dX10_floatOf_101 : decode k_X10_floatOf.2.1 101 = .ok (.i2f, 1) := by decide +kernel
theorem dX10_floatOf_102 : decode k_X10_floatOf.2.1 102 = .ok (.fadd, 1) := by decide +kernel
theorem dX10_floatOf_103 : decode k_X10_floatOf.2.1 103 = .ok (.ldc_w 324, 3) := by decide +kernel
theorem dX10_floatOf_106 : decode k_X10_floatOf.2.1 106 = .ok (.fmul, 1) := by decide +kernel
theorem dX10_floatOf_107 : decode k_X10_floatOf.2.1 107 = .ok (.fstore_n 2, 1) := by decide +kernel
theorem dX10_floatOf_108 : decode k_X10_floatOf.2.1 108 = .ok (.iinc 3 1, 3) := by decide +kernel
theorem dX10_floatOf_111 : decode k_X10_floatOf.2.1 111 = .ok (.goto (-33), 3) := by decide +kernel
theorem dX10_floatOf_114 : decode k_X10_floatOf.2.1 114 = .ok (.fload_n 2, 1) := by decide +kernel
theorem dX10_floatOf_115 : decode k_X10_floatOf.2.1 115 = .ok (.freturn, 1) := by decide +kernel
theorem dX10_bits_0 : decode k_X10_bits.2.1 0 = .ok (.aload_n 0, 1) := by decide +kernel
theorem dX10_bits_1 : decode k_X10_bits.2.1 1 = .ok (.iconst 0, 1) := by decide +kernel
theorem dX10_bits_2 : decode k_X10_bits.2.1 2 = .ok (.putfield 1, 3) := by decide +kernel
theorem dX10_bits_5 : decode k_X10_bits.2.1 5 = .ok (.iload_n 1, 1) := by decide +kernel
theorem dX10_bits_6 : decode k_X10_bits.2.1 6 = .ok (.i2l, 1) := by decide +kernel
theorem dX10_bits_7 : decode k_X10_bits.2.1 7 = .ok (.lconst 0, 1) := by decide +kernel
theorem dX10_bits_8 : decode k_X10_bits.2.1 8 = .ok (.ldc2_w 286, 3) := by decide +kernel
theorem dX10_bits_11 : decode k_X10_bits.2.1 11 = .ok (.invokestatic 98, 3) := by decide +kernel
theorem dX10_bits_14 : decode k_X10_bits.2.1 14 = .ok (.ifCond .eq 14, 3) := by decide +kernel
theorem dX10_bits_17 : decode k_X10_bits.2.1 17 = .ok (.aload_n 0, 1) := by decide +kernel
theorem dX10_bits_18 : decode k_X10_bits.2.1 18 = .ok (.iload_n 1, 1) := by decide +kernel
theorem dX10_bits_19 : decode k_X10_bits.2.1 19 = .ok (.invokevirtual 325, 3) := by decide +kernel
theorem dX10_bits_22 : decode k_X10_bits.2.1 22 = .ok (.invokestatic 329, 3) := by decide +kernel
theorem dX10_bits_25 : decode k_X10_bits.2.1 25 = .ok (.goto 6, 3) := by decide +kernel
theorem dX10_bits_28 : decode k_X10_bits.2.1 28 = .ok (.ldc_w 333, 3) := by decide +kernel
theorem dX10_bits_31 : decode k_X10_bits.2.1 31 = .ok (.ireturn, 1) := by decide +kernel
theorem dX10_undo_0 : decode k_X10_undo.2.1 0 = .ok (.aload_n 0, 1) := by decide +kernel
theorem dX10_undo_1 : decode k_X10_undo.2.1 1 = .ok (.iconst 0, 1) := by decide +kernel
theorem dX10_undo_2 : decode k_X10_undo.2.1 2 = .ok (.putfield 1, 3) := by decide +kernel
theorem dX10_undo_5 : decode k_X10_undo.2.1 5 = .ok (.iload_n 1, 1) := by decide +kernel
theorem dX10_undo_6 : decode k_X10_undo.2.1 6 = .ok (.i2l, 1) := by decide +kernel
theorem dX10_undo_7 : decode k_X10_undo.2.1 7 = .ok (.lconst 1, 1) := by decide +kernel
theorem dX10_undo_8 : decode k_X10_undo.2.1 8 = .ok (.ldc2_w 276, 3) := by decide +kernel
theorem dX10_undo_11 : decode k_X10_undo.2.1 11 = .ok (.invokestatic 98, 3) := by decide +kernel
theorem dX10_undo_14 : decode k_X10_undo.2.1 14 = .ok (.ifCond .eq 11, 3) := by decide +kernel
theorem dX10_undo_17 : decode k_X10_undo.2.1 17 = .ok (.iload_n 1, 1) := by decide +kernel
theorem dX10_undo_18 : decode k_X10_undo.2.1 18 = .ok (.aload_n 0, 1) := by decide +kernel
theorem dX10_undo_19 : decode k_X10_undo.2.1 19 = .ok (.getfield 85, 3) := by decide +kernel
theorem dX10_undo_22 : decode k_X10_undo.2.1 22 = .ok (.if_icmp .le 6, 3) := by decide +kernel
theorem dX10_undo_25 : decode k_X10_undo.2.1 25 = .ok (.bipush (-3), 2) := by decide +kernel
theorem dX10_undo_27 : decode k_X10_undo.2.1 27 = .ok (.ireturn, 1) := by decide +kernel
theorem dX10_undo_28 : decode k_X10_undo.2.1 28 = .ok (.aload_n 0, 1) := by decide +kernel
theorem dX10_undo_29 : decode k_X10_undo.2.1 29 = .ok (.dup, 1) := by decide +kernel
theorem dX10_undo_30 : decode k_X10_undo.2.1 30 = .ok (.getfield 85, 3) := by decide +kernel
theorem dX10_undo_33 : decode k_X10_undo.2.1 33 = .ok (.iload_n 1, 1) := by decide +kernel
theorem dX10_undo_34 : decode k_X10_undo.2.1 34 = .ok (.isub, 1) := by decide +kernel
theorem dX10_undo_35 : decode k_X10_undo.2.1 35 = .ok (.putfield 85, 3) := by decide +kernel
theorem dX10_undo_38 : decode k_X10_undo.2.1 38 = .ok (.aload_n 0, 1) := by decide +kernel
theorem dX10_undo_39 : decode k_X10_undo.2.1 39 = .ok (.getfield 17, 3) := by decide +kernel
theorem dX10_undo_42 : decode k_X10_undo.2.1 42 = .ok (.sipush 1021, 3) := by decide +kernel
theorem dX10_undo_45 : decode k_X10_undo.2.1 45 = .ok (.aload_n 0, 1) := by decide +kernel
theorem dX10_undo_46 : decode k_X10_undo.2.1 46 = .ok (.getfield 85, 3) := by decide +kernel
theorem dX10_undo_49 : decode k_X10_undo.2.1 49 = .ok (.imul, 1) := by decide +kernel
theorem dX10_undo_50 : decode k_X10_undo.2.1 50 = .ok (.aload_n 0, 1) := by decide +kernel
theorem dX10_undo_51 : decode k_X10_undo.2.1 51 = .ok (.getfield 13, 3) := by decide +kernel
theorem dX10_undo_54 : decode k_X10_undo.2.1 54 = .ok (.iconst 0, 1) := by decide +kernel
theorem dX10_undo_55 : decode k_X10_undo.2.1 55 = .ok (.sipush 1021, 3) := by decide +kernel
theorem dX10_undo_58 : decode k_X10_undo.2.1 58 = .ok (.invokestatic 88, 3) := by decide +kernel
theorem dX10_undo_61 : decode k_X10_undo.2.1 61 = .ok (.aload_n 0, 1) := by decide +kernel
theorem dX10_undo_62 : decode k_X10_undo.2.1 62 = .ok (.getfield 85, 3) := by decide +kernel
theorem dX10_undo_65 : decode k_X10_undo.2.1 65 = .ok (.ireturn, 1) := by decide +kernel
theorem dX10_image_0 : decode k_X10_image.2.1 0 = .ok (.aload_n 0, 1) := by decide +kernel
theorem dX10_image_1 : decode k_X10_image.2.1 1 = .ok (.iconst 0, 1) := by decide +kernel
theorem dX10_image_2 : decode k_X10_image.2.1 2 = .ok (.putfield 1, 3) := by decide +kernel
theorem dX10_image_5 : decode k_X10_image.2.1 5 = .ok (.iload_n 1, 1) := by decide +kernel
theorem dX10_image_6 : decode k_X10_image.2.1 6 = .ok (.i2l, 1) := by decide +kernel
theorem dX10_image_7 : decode k_X10_image.2.1 7 = .ok (.lconst 0, 1) := by decide +kernel
theorem dX10_image_8 : decode k_X10_image.2.1 8 = .ok (.lconst 1, 1) := by decide +kernel
theorem dX10_image_9 : decode k_X10_image.2.1 9 = .ok (.invokestatic 98, 3) := by decide +kernel
theorem dX10_image_12 : decode k_X10_image.2.1 12 = .ok (.ifCond .ne 6, 3) := by decide +kernel
theorem dX10_image_15 : decode k_X10_image.2.1 15 = .ok (.bipush (-2), 2) := by decide +kernel
theorem dX10_image_17 : decode k_X10_image.2.1 17 = .ok (.ireturn, 1) := by decide +kernel
theorem dX10_image_18 : decode k_X10_image.2.1 18 = .ok (.aload_n 0, 1) := by decide +kernel
theorem dX10_image_19 : decode k_X10_image.2.1 19 = .ok (.getfield 13, 3) := by decide +kernel
theorem dX10_image_22 : decode k_X10_image.2.1 22 = .ok (.iconst 0, 1) := by decide +kernel
theorem dX10_image_23 : decode k_X10_image.2.1 23 = .ok (.aload_n 0, 1) := by decide +kernel
theorem dX10_image_24 : decode k_X10_image.2.1 24 = .ok (.getfield 13, 3) := by decide +kernel
theorem dX10_image_27 : decode k_X10_image.2.1 27 = .ok (.sipush 1021, 3) := by decide +kernel
theorem dX10_image_30 : decode k_X10_image.2.1 30 = .ok (.iload_n 1, 1) := by decide +kernel
theorem dX10_image_31 : decode k_X10_image.2.1 31 = .ok (.iconst 1, 1) := by decide +kernel
theorem dX10_image_32 : decode k_X10_image.2.1 32 = .ok (.iadd, 1) := by decide +kernel
theorem dX10_image_33 : decode k_X10_image.2.1 33 = .ok (.imul, 1) := by decide +kernel
theorem dX10_image_34 : decode k_X10_image.2.1 34 = .ok (.sipush 1021, 3) := by decide +kernel
theorem dX10_image_37 : decode k_X10_image.2.1 37 = .ok (.invokestatic 88, 3) := by decide +kernel
theorem dX10_image_40 : decode k_X10_image.2.1 40 = .ok (.aload_n 0, 1) := by decide +kernel
theorem dX10_image_41 : decode k_X10_image.2.1 41 = .ok (.getfield 26, 3) := by decide +kernel
theorem dX10_image_44 : decode k_X10_image.2.1 44 = .ok (.iload_n 1, 1) := by decide +kernel
theorem dX10_image_45 : decode k_X10_image.2.1 45 = .ok (.iconst 1, 1) := by decide +kernel
theorem dX10_image_46 : decode k_X10_image.2.1 46 = .ok (.bastore, 1) := by decide +kernel
theorem dX10_image_47 : decode k_X10_image.2.1 47 = .ok (.iconst 0, 1) := by decide +kernel
theorem dX10_image_48 : decode k_X10_image.2.1 48 = .ok (.ireturn, 1) := by decide +kernel
theorem dX10_restore_0 : decode k_X10_restore.2.1 0 = .ok (.aload_n 0, 1) := by decide +kernel
theorem dX10_restore_1 : decode k_X10_restore.2.1 1 = .ok (.iconst 0, 1) := by decide +kernel
theorem dX10_restore_2 : decode k_X10_restore.2.1 2 = .ok (.putfield 1, 3) := by decide +kernel
theorem dX10_restore_5 : decode k_X10_restore.2.1 5 = .ok (.iload_n 1, 1) := by decide +kernel
theorem dX10_restore_6 : decode k_X10_restore.2.1 6 = .ok (.i2l, 1) := by decide +kernel
theorem dX10_restore_7 : decode k_X10_restore.2.1 7 = .ok (.lconst 0, 1) := by decide +kernel
theorem dX10_restore_8 : decode k_X10_restore.2.1 8 = .ok (.lconst 1, 1) := by decide +kernel
theorem dX10_restore_9 : decode k_X10_restore.2.1 9 = .ok (.invokestatic 98, 3) := by decide +kernel
theorem dX10_restore_12 : decode k_X10_restore.2.1 12 = .ok (.ifCond .ne 6, 3) := by decide +kernel
theorem dX10_restore_15 : decode k_X10_restore.2.1 15 = .ok (.bipush (-2), 2) := by decide +kernel
theorem dX10_restore_17 : decode k_X10_restore.2.1 17 = .ok (.ireturn, 1) := by decide +kernel
theorem dX10_restore_18 : decode k_X10_restore.2.1 18 = .ok (.aload_n 0, 1) := by decide +kernel
theorem dX10_restore_19 : decode k_X10_restore.2.1 19 = .ok (.getfield 26, 3) := by decide +kernel
theorem dX10_restore_22 : decode k_X10_restore.2.1 22 = .ok (.iload_n 1, 1) := by decide +kernel
theorem dX10_restore_23 : decode k_X10_restore.2.1 23 = .ok (.baload, 1) := by decide +kernel
theorem dX10_restore_24 : decode k_X10_restore.2.1 24 = .ok (.ifCond .ne 6, 3) := by decide +kernel
theorem dX10_restore_27 : decode k_X10_restore.2.1 27 = .ok (.bipush (-6), 2) := by decide +kernel
theorem dX10_restore_29 : decode k_X10_restore.2.1 29 = .ok (.ireturn, 1) := by decide +kernel
theorem dX10_restore_30 : decode k_X10_restore.2.1 30 = .ok (.aload_n 0, 1) := by decide +kernel
theorem dX10_restore_31 : decode k_X10_restore.2.1 31 = .ok (.getfield 13, 3) := by decide +kernel
theorem dX10_restore_34 : decode k_X10_restore.2.1 34 = .ok (.sipush 1021, 3) := by decide +kernel
theorem dX10_restore_37 : decode k_X10_restore.2.1 37 = .ok (.iload_n 1, 1) := by decide +kernel
theorem dX10_restore_38 : decode k_X10_restore.2.1 38 = .ok (.iconst 1, 1) := by decide +kernel
theorem dX10_restore_39 : decode k_X10_restore.2.1 39 = .ok (.iadd, 1) := by decide +kernel
theorem dX10_restore_40 : decode k_X10_restore.2.1 40 = .ok (.imul, 1) := by decide +kernel
theorem dX10_restore_41 : decode k_X10_restore.2.1 41 = .ok (.aload_n 0, 1) := by decide +kernel
theorem dX10_restore_42 : decode k_X10_restore.2.1 42 = .ok (.getfield 13, 3) := by decide +kernel
theorem dX10_restore_45 : decode k_X10_restore.2.1 45 = .ok (.iconst 0, 1) := by decide +kernel
theorem dX10_restore_46 : decode k_X10_restore.2.1 46 = .ok (.sipush 1021, 3) := by decide +kernel
theorem dX10_restore_49 : decode k_X10_restore.2.1 49 = .ok (.invokestatic 88, 3) := by decide +kernel
theorem dX10_restore_52 : decode k_X10_restore.2.1 52 = .ok (.aload_n 0, 1) := by decide +kernel
theorem dX10_restore_53 : decode k_X10_restore.2.1 53 = .ok (.iconst 0, 1) := by decide +kernel
theorem dX10_restore_54 : decode k_X10_restore.2.1 54 = .ok (.putfield 85, 3) := by decide +kernel
theorem dX10_restore_57 : decode k_X10_restore.2.1 57 = .ok (.iconst 0, 1) := by decide +kernel
theorem dX10_restore_58 : decode k_X10_restore.2.1 58 = .ok (.ireturn, 1) := by decide +kernel
theorem dX10_rulesMany_0 : decode k_X10_rulesMany.2.1 0 = .ok (.iconst 0, 1) := by decide +kernel
theorem dX10_rulesMany_1 : decode k_X10_rulesMany.2.1 1 = .ok (.istore_n 1, 1) := by decide +kernel
theorem dX10_rulesMany_2 : decode k_X10_rulesMany.2.1 2 = .ok (.bipush 26, 2) := by decide +kernel
theorem dX10_rulesMany_4 : decode k_X10_rulesMany.2.1 4 = .ok (.istore_n 2, 1) := by decide +kernel
theorem dX10_rulesMany_5 : decode k_X10_rulesMany.2.1 5 = .ok (.iload_n 2, 1) := by decide +kernel
theorem dX10_rulesMany_6 : decode k_X10_rulesMany.2.1 6 = .ok (.bipush 86, 2) := by decide +kernel
theorem dX10_rulesMany_8 : decode k_X10_rulesMany.2.1 8 = .ok (.if_icmp .ge 25, 3) := by decide +kernel
theorem dX10_rulesMany_11 : decode k_X10_rulesMany.2.1 11 = .ok (.iload_n 1, 1) := by decide +kernel
theorem dX10_rulesMany_12 : decode k_X10_rulesMany.2.1 12 = .ok (.aload_n 0, 1) := by decide +kernel
theorem dX10_rulesMany_13 : decode k_X10_rulesMany.2.1 13 = .ok (.iload_n 2, 1) := by decide +kernel
theorem dX10_rulesMany_14 : decode k_X10_rulesMany.2.1 14 = .ok (.invokevirtual 106, 3) := by decide +kernel
theorem dX10_rulesMany_17 : decode k_X10_rulesMany.2.1 17 = .ok (.ifCond .le 7, 3) := by decide +kernel
theorem dX10_rulesMany_20 : decode k_X10_rulesMany.2.1 20 = .ok (.iconst 1, 1) := by decide +kernel
theorem dX10_rulesMany_21 : decode k_X10_rulesMany.2.1 21 = .ok (.goto 4, 3) := by decide +kernel
theorem dX10_rulesMany_24 : decode k_X10_rulesMany.2.1 24 = .ok (.iconst 0, 1) := by decide +kernel
theorem dX10_rulesMany_25 : decode k_X10_rulesMany.2.1 25 = .ok (.iadd, 1) := by decide +kernel
theorem dX10_rulesMany_26 : decode k_X10_rulesMany.2.1 26 = .ok (.istore_n 1, 1) := by decide +kernel
theorem dX10_rulesMany_27 : decode k_X10_rulesMany.2.1 27 = .ok (.iinc 2 1, 3) := by decide +kernel
theorem dX10_rulesMany_30 : decode k_X10_rulesMany.2.1 30 = .ok (.goto (-25), 3) := by decide +kernel
theorem dX10_rulesMany_33 : decode k_X10_rulesMany.2.1 33 = .ok (.iload_n 1, 1) := by decide +kernel
theorem dX10_rulesMany_34 : decode k_X10_rulesMany.2.1 34 = .ok (.ireturn, 1) := by decide +kernel
theorem dX10_deepest_0 : decode k_X10_deepest.2.1 0 = .ok (.aload_n 0, 1) := by decide +kernel
theorem dX10_deepest_1 : decode k_X10_deepest.2.1 1 = .ok (.invokevirtual 134, 3) := by decide +kernel
theorem dX10_deepest_4 : decode k_X10_deepest.2.1 4 = .ok (.iconst 0, 1) := by decide +kernel
theorem dX10_deepest_5 : decode k_X10_deepest.2.1 5 = .ok (.istore_n 1, 1) := by decide +kernel
theorem dX10_deepest_6 : decode k_X10_deepest.2.1 6 = .ok (.iconst 0, 1) := by decide +kernel
theorem dX10_deepest_7 : decode k_X10_deepest.2.1 7 = .ok (.istore_n 2, 1) := by decide +kernel
theorem dX10_deepest_8 : decode k_X10_deepest.2.1 8 = .ok (.iload_n 2, 1) := by decide +kernel
theorem dX10_deepest_9 : decode k_X10_deepest.2.1 9 = .ok (.aload_n 0, 1) := by decide +kernel
theorem dX10_deepest_10 : decode k_X10_deepest.2.1 10 = .ok (.invokevirtual 123, 3) := by decide +kernel
theorem dX10_deepest_13 : decode k_X10_deepest.2.1 13 = .ok (.if_icmp .ge 24, 3) := by decide +kernel
theorem dX10_deepest_16 : decode k_X10_deepest.2.1 16 = .ok (.iload_n 1, 1) := by decide +kernel
theorem dX10_deepest_17 : decode k_X10_deepest.2.1 17 = .ok (.aload_n 0, 1) := by decide +kernel
theorem dX10_deepest_18 : decode k_X10_deepest.2.1 18 = .ok (.getfield 33, 3) := by decide +kernel
theorem dX10_deepest_21 : decode k_X10_deepest.2.1 21 = .ok (.aload_n 0, 1) := by decide +kernel
theorem dX10_deepest_22 : decode k_X10_deepest.2.1 22 = .ok (.iload_n 2, 1) := by decide +kernel
theorem dX10_deepest_23 : decode k_X10_deepest.2.1 23 = .ok (.invokevirtual 127, 3) := by decide +kernel
theorem dX10_deepest_26 : decode k_X10_deepest.2.1 26 = .ok (.iaload, 1) := by decide +kernel
theorem dX10_deepest_27 : decode k_X10_deepest.2.1 27 = .ok (.invokestatic 117, 3) := by decide +kernel
theorem dX10_deepest_30 : decode k_X10_deepest.2.1 30 = .ok (.istore_n 1, 1) := by decide +kernel
theorem dX10_deepest_31 : decode k_X10_deepest.2.1 31 = .ok (.iinc 2 1, 3) := by decide +kernel
theorem dX10_deepest_34 : decode k_X10_deepest.2.1 34 = .ok (.goto (-26), 3) := by decide +kernel
theorem dX10_deepest_37 : decode k_X10_deepest.2.1 37 = .ok (.iload_n 1, 1) := by decide +kernel
theorem dX10_deepest_38 : decode k_X10_deepest.2.1 38 = .ok (.ireturn, 1) := by decide +kernel
theorem dX10_count_0 : decode k_X10_count.2.1 0 = .ok (.aload_n 0, 1) := by decide +kernel
theorem dX10_count_1 : decode k_X10_count.2.1 1 = .ok (.iconst 0, 1) := by decide +kernel
theorem dX10_count_2 : decode k_X10_count.2.1 2 = .ok (.putfield 1, 3) := by decide +kernel
theorem dX10_count_5 : decode k_X10_count.2.1 5 = .ok (.iload_n 1, 1) := by decide +kernel
theorem dX10_count_6 : decode k_X10_count.2.1 6 = .ok (.tableswitch 117 0 10 #[58, 63, 68, 73, 78, 83, 88, 93, 98, 103, 112], 58) := by decide +kernel
theorem dX10_count_64 : decode k_X10_count.2.1 64 = .ok (.aload_n 0, 1) := by decide +kernel
theorem dX10_count_65 : decode k_X10_count.2.1 65 = .ok (.invokevirtual 174, 3) := by decide +kernel
theorem dX10_count_68 : decode k_X10_count.2.1 68 = .ok (.ireturn, 1) := by decide +kernel
theorem dX10_count_69 : decode k_X10_count.2.1 69 = .ok (.aload_n 0, 1) := by decide +kernel
theorem dX10_count_70 : decode k_X10_count.2.1 70 = .ok (.invokevirtual 123, 3) := by decide +kernel
theorem dX10_count_73 : decode k_X10_count.2.1 73 = .ok (.ireturn, 1) := by decide +kernel
theorem dX10_count_74 : decode k_X10_count.2.1 74 = .ok (.aload_n 0, 1) := by decide +kernel
theorem dX10_count_75 : decode k_X10_count.2.1 75 = .ok (.invokevirtual 180, 3) := by decide +kernel
theorem dX10_count_78 : decode k_X10_count.2.1 78 = .ok (.ireturn, 1) := by decide +kernel
theorem dX10_count_79 : decode k_X10_count.2.1 79 = .ok (.aload_n 0, 1) := by decide +kernel
theorem dX10_count_80 : decode k_X10_count.2.1 80 = .ok (.invokevirtual 264, 3) := by decide +kernel
theorem dX10_count_83 : decode k_X10_count.2.1 83 = .ok (.ireturn, 1) := by decide +kernel
theorem dX10_count_84 : decode k_X10_count.2.1 84 = .ok (.aload_n 0, 1) := by decide +kernel
theorem dX10_count_85 : decode k_X10_count.2.1 85 = .ok (.invokevirtual 334, 3) := by decide +kernel
theorem dX10_count_88 : decode k_X10_count.2.1 88 = .ok (.ireturn, 1) := by decide +kernel
theorem dX10_count_89 : decode k_X10_count.2.1 89 = .ok (.aload_n 0, 1) := by decide +kernel
theorem dX10_count_90 : decode k_X10_count.2.1 90 = .ok (.getfield 137, 3) := by decide +kernel
theorem dX10_count_93 : decode k_X10_count.2.1 93 = .ok (.ireturn, 1) := by decide +kernel
theorem dX10_count_94 : decode k_X10_count.2.1 94 = .ok (.aload_n 0, 1) := by decide +kernel
theorem dX10_count_95 : decode k_X10_count.2.1 95 = .ok (.getfield 85, 3) := by decide +kernel
theorem dX10_count_98 : decode k_X10_count.2.1 98 = .ok (.ireturn, 1) := by decide +kernel
theorem dX10_count_99 : decode k_X10_count.2.1 99 = .ok (.aload_n 0, 1) := by decide +kernel
theorem dX10_count_100 : decode k_X10_count.2.1 100 = .ok (.invokevirtual 236, 3) := by decide +kernel
theorem dX10_count_103 : decode k_X10_count.2.1 103 = .ok (.ireturn, 1) := by decide +kernel
theorem dX10_count_104 : decode k_X10_count.2.1 104 = .ok (.aload_n 0, 1) := by decide +kernel
theorem dX10_count_105 : decode k_X10_count.2.1 105 = .ok (.invokevirtual 233, 3) := by decide +kernel
theorem dX10_count_108 : decode k_X10_count.2.1 108 = .ok (.ireturn, 1) := by decide +kernel
theorem dX10_count_109 : decode k_X10_count.2.1 109 = .ok (.aload_n 0, 1) := by decide +kernel
theorem dX10_count_110 : decode k_X10_count.2.1 110 = .ok (.invokevirtual 189, 3) := by decide +kernel
theorem dX10_count_113 : decode k_X10_count.2.1 113 = .ok (.aload_n 0, 1) := by decide +kernel
theorem dX10_count_114 : decode k_X10_count.2.1 114 = .ok (.getfield 177, 3) := by decide +kernel
theorem dX10_count_117 : decode k_X10_count.2.1 117 = .ok (.ireturn, 1) := by decide +kernel
theorem dX10_count_118 : decode k_X10_count.2.1 118 = .ok (.aload_n 0, 1) := by decide +kernel
theorem dX10_count_119 : decode k_X10_count.2.1 119 = .ok (.invokevirtual 337, 3) := by decide +kernel
theorem dX10_count_122 : decode k_X10_count.2.1 122 = .ok (.ireturn, 1) := by decide +kernel
theorem dX10_count_123 : decode k_X10_count.2.1 123 = .ok (.iconst (-1), 1) := by decide +kernel
theorem dX10_count_124 : decode k_X10_count.2.1 124 = .ok (.ireturn, 1) := by decide +kernel
theorem dJ9_floorMod_7cf53_0 : decode k_J9_floorMod_7cf53.2.1 0 = .ok (.iload_n 0, 1) := by decide +kernel
theorem dJ9_floorMod_7cf53_1 : decode k_J9_floorMod_7cf53.2.1 1 = .ok (.iload_n 1, 1) := by decide +kernel
theorem dJ9_floorMod_7cf53_2 : decode k_J9_floorMod_7cf53.2.1 2 = .ok (.irem, 1) := by decide +kernel
theorem dJ9_floorMod_7cf53_3 : decode k_J9_floorMod_7cf53.2.1 3 = .ok (.istore_n 2, 1) := by decide +kernel
theorem dJ9_floorMod_7cf53_4 : decode k_J9_floorMod_7cf53.2.1 4 = .ok (.iload_n 0, 1) := by decide +kernel
theorem dJ9_floorMod_7cf53_5 : decode k_J9_floorMod_7cf53.2.1 5 = .ok (.iload_n 1, 1) := by decide +kernel
theorem dJ9_floorMod_7cf53_6 : decode k_J9_floorMod_7cf53.2.1 6 = .ok (.ixor, 1) := by decide +kernel
theorem dJ9_floorMod_7cf53_7 : decode k_J9_floorMod_7cf53.2.1 7 = .ok (.ifCond .ge 11, 3) := by decide +kernel
theorem dJ9_floorMod_7cf53_10 : decode k_J9_floorMod_7cf53.2.1 10 = .ok (.iload_n 2, 1) := by decide +kernel
theorem dJ9_floorMod_7cf53_11 : decode k_J9_floorMod_7cf53.2.1 11 = .ok (.ifCond .eq 7, 3) := by decide +kernel
theorem dJ9_floorMod_7cf53_14 : decode k_J9_floorMod_7cf53.2.1 14 = .ok (.iload_n 2, 1) := by decide +kernel
theorem dJ9_floorMod_7cf53_15 : decode k_J9_floorMod_7cf53.2.1 15 = .ok (.iload_n 1, 1) := by decide +kernel
theorem dJ9_floorMod_7cf53_16 : decode k_J9_floorMod_7cf53.2.1 16 = .ok (.iadd, 1) := by decide +kernel
theorem dJ9_floorMod_7cf53_17 : decode k_J9_floorMod_7cf53.2.1 17 = .ok (.ireturn, 1) := by decide +kernel
theorem dJ9_floorMod_7cf53_18 : decode k_J9_floorMod_7cf53.2.1 18 = .ok (.iload_n 2, 1) := by decide +kernel
theorem dJ9_floorMod_7cf53_19 : decode k_J9_floorMod_7cf53.2.1 19 = .ok (.ireturn, 1) := by decide +kernel
theorem dJ9_max_7cf53_0 : decode k_J9_max_7cf53.2.1 0 = .ok (.iload_n 0, 1) := by decide +kernel
theorem dJ9_max_7cf53_1 : decode k_J9_max_7cf53.2.1 1 = .ok (.iload_n 1, 1) := by decide +kernel
theorem dJ9_max_7cf53_2 : decode k_J9_max_7cf53.2.1 2 = .ok (.if_icmp .lt 7, 3) := by decide +kernel
theorem dJ9_max_7cf53_5 : decode k_J9_max_7cf53.2.1 5 = .ok (.iload_n 0, 1) := by decide +kernel
theorem dJ9_max_7cf53_6 : decode k_J9_max_7cf53.2.1 6 = .ok (.goto 4, 3) := by decide +kernel
theorem dJ9_max_7cf53_9 : decode k_J9_max_7cf53.2.1 9 = .ok (.iload_n 1, 1) := by decide +kernel
theorem dJ9_max_7cf53_10 : decode k_J9_max_7cf53.2.1 10 = .ok (.ireturn, 1) := by decide +kernel
theorem dJ9_min_7cf53_0 : decode k_J9_min_7cf53.2.1 0 = .ok (.iload_n 0, 1) := by decide +kernel
theorem dJ9_min_7cf53_1 : decode k_J9_min_7cf53.2.1 1 = .ok (.iload_n 1, 1) := by decide +kernel
theorem dJ9_min_7cf53_2 : decode k_J9_min_7cf53.2.1 2 = .ok (.if_icmp .gt 7, 3) := by decide +kernel
theorem dJ9_min_7cf53_5 : decode k_J9_min_7cf53.2.1 5 = .ok (.iload_n 0, 1) := by decide +kernel
theorem dJ9_min_7cf53_6 : decode k_J9_min_7cf53.2.1 6 = .ok (.goto 4, 3) := by decide +kernel
theorem dJ9_min_7cf53_9 : decode k_J9_min_7cf53.2.1 9 = .ok (.iload_n 1, 1) := by decide +kernel
theorem dJ9_min_7cf53_10 : decode k_J9_min_7cf53.2.1 10 = .ok (.ireturn, 1) := by decide +kernel
theorem dL_law_0 : decode k_L_law.2.1 0 = .ok (.new 7, 3) := by decide +kernel
theorem dL_law_3 : decode k_L_law.2.1 3 = .ok (.dup, 1) := by decide +kernel
theorem dL_law_4 : decode k_L_law.2.1 4 = .ok (.invokespecial 9, 3) := by decide +kernel
theorem dL_law_7 : decode k_L_law.2.1 7 = .ok (.astore_n 1, 1) := by decide +kernel
theorem dL_law_8 : decode k_L_law.2.1 8 = .ok (.new 10, 3) := by decide +kernel
theorem dL_law_11 : decode k_L_law.2.1 11 = .ok (.dup, 1) := by decide +kernel
theorem dL_law_12 : decode k_L_law.2.1 12 = .ok (.invokespecial 12, 3) := by decide +kernel
theorem dL_law_15 : decode k_L_law.2.1 15 = .ok (.astore_n 2, 1) := by decide +kernel
theorem dL_law_16 : decode k_L_law.2.1 16 = .ok (.iconst 0, 1) := by decide +kernel
theorem dL_law_17 : decode k_L_law.2.1 17 = .ok (.istore_n 3, 1) := by decide +kernel
theorem dL_law_18 : decode k_L_law.2.1 18 = .ok (.iload_n 3, 1) := by decide +kernel
theorem dL_law_19 : decode k_L_law.2.1 19 = .ok (.aload_n 0, 1) := by decide +kernel
theorem dL_law_20 : decode k_L_law.2.1 20 = .ok (.arraylength, 1) := by decide +kernel
theorem dL_law_21 : decode k_L_law.2.1 21 = .ok (.bipush 6, 2) := by decide +kernel
theorem dL_law_23 : decode k_L_law.2.1 23 = .ok (.isub, 1) := by decide +kernel
theorem dL_law_24 : decode k_L_law.2.1 24 = .ok (.if_icmp .gt 1277, 3) := by decide +kernel
theorem dL_law_27 : decode k_L_law.2.1 27 = .ok (.aload_n 0, 1) := by decide +kernel
theorem dL_law_28 : decode k_L_law.2.1 28 = .ok (.iload_n 3, 1) := by decide +kernel
theorem dL_law_29 : decode k_L_law.2.1 29 = .ok (.iaload, 1) := by decide +kernel
theorem dL_law_30 : decode k_L_law.2.1 30 = .ok (.bipush 63, 2) := by decide +kernel
theorem dL_law_32 : decode k_L_law.2.1 32 = .ok (.iand, 1) := by decide +kernel
theorem dL_law_33 : decode k_L_law.2.1 33 = .ok (.tableswitch 1262 0 40 #[179, 242, 265, 288, 311, 334, 347, 360, 393, 416, 429, 442, 475, 508, 541, 564, 597, 630, 663, 686, 709, 742, 775, 808, 841, 874, 907, 940, 953, 966, 989, 1012, 1045, 1068, 1091, 1114, 1147, 1170, 1193, 1216, 1239], 179) := by decide +kernel
theorem dL_law_212 : decode k_L_law.2.1 212 = .ok (.aload_n 1, 1) := by decide +kernel
theorem dL_law_213 : decode k_L_law.2.1 213 = .ok (.aload_n 0, 1) := by decide +kernel
theorem dL_law_214 : decode k_L_law.2.1 214 = .ok (.iload_n 3, 1) := by decide +kernel
theorem dL_law_215 : decode k_L_law.2.1 215 = .ok (.iconst 1, 1) := by decide +kernel
theorem dL_law_216 : decode k_L_law.2.1 216 = .ok (.iadd, 1) := by decide +kernel
theorem dL_law_217 : decode k_L_law.2.1 217 = .ok (.iaload, 1) := by decide +kernel
theorem dL_law_218 : decode k_L_law.2.1 218 = .ok (.aload_n 0, 1) := by decide +kernel
theorem dL_law_219 : decode k_L_law.2.1 219 = .ok (.iload_n 3, 1) := by decide +kernel
theorem dL_law_220 : decode k_L_law.2.1 220 = .ok (.iconst 2, 1) := by decide +kernel
theorem dL_law_221 : decode k_L_law.2.1 221 = .ok (.iadd, 1) := by decide +kernel
theorem dL_law_222 : decode k_L_law.2.1 222 = .ok (.iaload, 1) := by decide +kernel
theorem dL_law_223 : decode k_L_law.2.1 223 = .ok (.aload_n 0, 1) := by decide +kernel
theorem dL_law_224 : decode k_L_law.2.1 224 = .ok (.iload_n 3, 1) := by decide +kernel
theorem dL_law_225 : decode k_L_law.2.1 225 = .ok (.iconst 3, 1) := by decide +kernel
theorem dL_law_226 : decode k_L_law.2.1 226 = .ok (.iadd, 1) := by decide +kernel
theorem dL_law_227 : decode k_L_law.2.1 227 = .ok (.iaload, 1) := by decide +kernel
theorem dL_law_228 : decode k_L_law.2.1 228 = .ok (.aload_n 0, 1) := by decide +kernel
theorem dL_law_229 : decode k_L_law.2.1 229 = .ok (.iload_n 3, 1) := by decide +kernel
theorem dL_law_230 : decode k_L_law.2.1 230 = .ok (.iconst 4, 1) := by decide +kernel
theorem dL_law_231 : decode k_L_law.2.1 231 = .ok (.iadd, 1) := by decide +kernel
theorem dL_law_232 : decode k_L_law.2.1 232 = .ok (.iaload, 1) := by decide +kernel
theorem dL_law_233 : decode k_L_law.2.1 233 = .ok (.aload_n 0, 1) := by decide +kernel
theorem dL_law_234 : decode k_L_law.2.1 234 = .ok (.iload_n 3, 1) := by decide +kernel
theorem dL_law_235 : decode k_L_law.2.1 235 = .ok (.iconst 5, 1) := by decide +kernel
theorem dL_law_236 : decode k_L_law.2.1 236 = .ok (.iadd, 1) := by decide +kernel
theorem dL_law_237 : decode k_L_law.2.1 237 = .ok (.iaload, 1) := by decide +kernel
theorem dL_law_238 : decode k_L_law.2.1 238 = .ok (.invokevirtual 13, 3) := by decide +kernel
theorem dL_law_241 : decode k_L_law.2.1 241 = .ok (.aload_n 2, 1) := by decide +kernel
theorem dL_law_242 : decode k_L_law.2.1 242 = .ok (.aload_n 0, 1) := by decide +kernel
theorem dL_law_243 : decode k_L_law.2.1 243 = .ok (.iload_n 3, 1) := by decide +kernel
theorem dL_law_244 : decode k_L_law.2.1 244 = .ok (.iconst 1, 1) := by decide +kernel
theorem dL_law_245 : decode k_L_law.2.1 245 = .ok (.iadd, 1) := by decide +kernel
theorem dL_law_246 : decode k_L_law.2.1 246 = .ok (.iaload, 1) := by decide +kernel
theorem dL_law_247 : decode k_L_law.2.1 247 = .ok (.aload_n 0, 1) := by decide +kernel
theorem dL_law_248 : decode k_L_law.2.1 248 = .ok (.iload_n 3, 1) := by decide +kernel
theorem dL_law_249 : decode k_L_law.2.1 249 = .ok (.iconst 2, 1) := by decide +kernel
theorem dL_law_250 : decode k_L_law.2.1 250 = .ok (.iadd, 1) := by decide +kernel
theorem dL_law_251 : decode k_L_law.2.1 251 = .ok (.iaload, 1) := by decide +kernel
theorem dL_law_252 : decode k_L_law.2.1 252 = .ok (.aload_n 0, 1) := by decide +kernel
theorem dL_law_253 : decode k_L_law.2.1 253 = .ok (.iload_n 3, 1) := by decide +kernel
theorem dL_law_254 : decode k_L_law.2.1 254 = .ok (.iconst 3, 1) := by decide +kernel
theorem dL_law_255 : decode k_L_law.2.1 255 = .ok (.iadd, 1) := by decide +kernel
theorem dL_law_256 : decode k_L_law.2.1 256 = .ok (.iaload, 1) := by decide +kernel
theorem dL_law_257 : decode k_L_law.2.1 257 = .ok (.aload_n 0, 1) := by decide +kernel
theorem dL_law_258 : decode k_L_law.2.1 258 = .ok (.iload_n 3, 1) := by decide +kernel
theorem dL_law_259 : decode k_L_law.2.1 259 = .ok (.iconst 4, 1) := by decide +kernel
theorem dL_law_260 : decode k_L_law.2.1 260 = .ok (.iadd, 1) := by decide +kernel
theorem dL_law_261 : decode k_L_law.2.1 261 = .ok (.iaload, 1) := by decide +kernel
theorem dL_law_262 : decode k_L_law.2.1 262 = .ok (.aload_n 0, 1) := by decide +kernel
theorem dL_law_263 : decode k_L_law.2.1 263 = .ok (.iload_n 3, 1) := by decide +kernel
theorem dL_law_264 : decode k_L_law.2.1 264 = .ok (.iconst 5, 1) := by decide +kernel
theorem dL_law_265 : decode k_L_law.2.1 265 = .ok (.iadd, 1) := by decide +kernel
theorem dL_law_266 : decode k_L_law.2.1 266 = .ok (.iaload, 1) := by decide +kernel
theorem dL_law_267 : decode k_L_law.2.1 267 = .ok (.invokevirtual 17, 3) := by decide +kernel
theorem dL_law_270 : decode k_L_law.2.1 270 = .ok (.if_icmp .eq 1025, 3) := by decide +kernel
theorem dL_law_273 : decode k_L_law.2.1 273 = .ok (.iconst 0, 1) := by decide +kernel
theorem dL_law_274 : decode k_L_law.2.1 274 = .ok (.ireturn, 1) := by decide +kernel
theorem dL_law_275 : decode k_L_law.2.1 275 = .ok (.aload_n 1, 1) := by decide +kernel
theorem dL_law_276 : decode k_L_law.2.1 276 = .ok (.aload_n 0, 1) := by decide +kernel
theorem dL_law_277 : decode k_L_law.2.1 277 = .ok (.iload_n 3, 1) := by decide +kernel
theorem dL_law_278 : decode k_L_law.2.1 278 = .ok (.iconst 1, 1) := by decide +kernel
theorem dL_law_279 : decode k_L_law.2.1 279 = .ok (.iadd, 1) := by decide +kernel
theorem dL_law_280 : decode k_L_law.2.1 280 = .ok (.iaload, 1) := by decide +kernel
theorem dL_law_281 : decode k_L_law.2.1 281 = .ok (.invokevirtual 18, 3) := by decide +kernel
theorem dL_law_284 : decode k_L_law.2.1 284 = .ok (.aload_n 2, 1) := by decide +kernel
theorem dL_law_285 : decode k_L_law.2.1 285 = .ok (.aload_n 0, 1) := by decide +kernel
theorem dL_law_286 : decode k_L_law.2.1 286 = .ok (.iload_n 3, 1) := by decide +kernel
theorem dL_law_287 : decode k_L_law.2.1 287 = .ok (.iconst 1, 1) := by decide +kernel
theorem dL_law_288 : decode k_L_law.2.1 288 = .ok (.iadd, 1) := by decide +kernel
theorem dL_law_289 : decode k_L_law.2.1 289 = .ok (.iaload, 1) := by decide +kernel
theorem dL_law_290 : decode k_L_law.2.1 290 = .ok (.invokevirtual 22, 3) := by decide +kernel
theorem dL_law_293 : decode k_L_law.2.1 293 = .ok (.if_icmp .eq 1002, 3) := by decide +kernel
theorem dL_law_296 : decode k_L_law.2.1 296 = .ok (.iconst 0, 1) := by decide +kernel
theorem dL_law_297 : decode k_L_law.2.1 297 = .ok (.ireturn, 1) := by decide +kernel
theorem dL_law_298 : decode k_L_law.2.1 298 = .ok (.aload_n 1, 1) := by decide +kernel
theorem dL_law_299 : decode k_L_law.2.1 299 = .ok (.aload_n 0, 1) := by decide +kernel
theorem dL_law_300 : decode k_L_law.2.1 300 = .ok (.iload_n 3, 1) := by decide +kernel
theorem dL_law_301 : decode k_L_law.2.1 301 = .ok (.iconst 1, 1) := by decide +kernel
theorem dL_law_302 : decode k_L_law.2.1 302 = .ok (.iadd, 1) := by decide +kernel
theorem dL_law_303 : decode k_L_law.2.1 303 = .ok (.iaload, 1) := by decide +kernel
theorem dL_law_304 : decode k_L_law.2.1 304 = .ok (.invokevirtual 23, 3) := by decide +kernel
theorem dL_law_307 : decode k_L_law.2.1 307 = .ok (.aload_n 2, 1) := by decide +kernel
theorem dL_law_308 : decode k_L_law.2.1 308 = .ok (.aload_n 0, 1) := by decide +kernel
theorem dL_law_309 : decode k_L_law.2.1 309 = .ok (.iload_n 3, 1) := by decide +kernel
theorem dL_law_310 : decode k_L_law.2.1 310 = .ok (.iconst 1, 1) := by decide +kernel
theorem dL_law_311 : decode k_L_law.2.1 311 = .ok (.iadd, 1) := by decide +kernel
theorem dL_law_312 : decode k_L_law.2.1 312 = .ok (.iaload, 1) := by decide +kernel
theorem dL_law_313 : decode k_L_law.2.1 313 = .ok (.invokevirtual 26, 3) := by decide +kernel
theorem dL_law_316 : decode k_L_law.2.1 316 = .ok (.if_icmp .eq 979, 3) := by decide +kernel
theorem dL_law_319 : decode k_L_law.2.1 319 = .ok (.iconst 0, 1) := by decide +kernel
theorem dL_law_320 : decode k_L_law.2.1 320 = .ok (.ireturn, 1) := by decide +kernel
theorem dL_law_321 : decode k_L_law.2.1 321 = .ok (.aload_n 1, 1) := by decide +kernel
theorem dL_law_322 : decode k_L_law.2.1 322 = .ok (.aload_n 0, 1) := by decide +kernel
theorem dL_law_323 : decode k_L_law.2.1 323 = .ok (.iload_n 3, 1) := by decide +kernel
theorem dL_law_324 : decode k_L_law.2.1 324 = .ok (.iconst 1, 1) := by decide +kernel
theorem dL_law_325 : decode k_L_law.2.1 325 = .ok (.iadd, 1) := by decide +kernel
theorem dL_law_326 : decode k_L_law.2.1 326 = .ok (.iaload, 1) := by decide +kernel
theorem dL_law_327 : decode k_L_law.2.1 327 = .ok (.invokevirtual 27, 3) := by decide +kernel
theorem dL_law_330 : decode k_L_law.2.1 330 = .ok (.aload_n 2, 1) := by decide +kernel
theorem dL_law_331 : decode k_L_law.2.1 331 = .ok (.aload_n 0, 1) := by decide +kernel
theorem dL_law_332 : decode k_L_law.2.1 332 = .ok (.iload_n 3, 1) := by decide +kernel
theorem dL_law_333 : decode k_L_law.2.1 333 = .ok (.iconst 1, 1) := by decide +kernel
theorem dL_law_334 : decode k_L_law.2.1 334 = .ok (.iadd, 1) := by decide +kernel
theorem dL_law_335 : decode k_L_law.2.1 335 = .ok (.iaload, 1) := by decide +kernel
theorem dL_law_336 : decode k_L_law.2.1 336 = .ok (.invokevirtual 30, 3) := by decide +kernel
theorem dL_law_339 : decode k_L_law.2.1 339 = .ok (.if_icmp .eq 956, 3) := by decide +kernel
theorem dL_law_342 : decode k_L_law.2.1 342 = .ok (.iconst 0, 1) := by decide +kernel
theorem dL_law_343 : decode k_L_law.2.1 343 = .ok (.ireturn, 1) := by decide +kernel
theorem dL_law_344 : decode k_L_law.2.1 344 = .ok (.aload_n 1, 1) := by decide +kernel
theorem dL_law_345 : decode k_L_law.2.1 345 = .ok (.aload_n 0, 1) := by decide +kernel
theorem dL_law_346 : decode k_L_law.2.1 346 = .ok (.iload_n 3, 1) := by decide +kernel
theorem dL_law_347 : decode k_L_law.2.1 347 = .ok (.iconst 1, 1) := by decide +kernel
theorem dL_law_348 : decode k_L_law.2.1 348 = .ok (.iadd, 1) := by decide +kernel
theorem dL_law_349 : decode k_L_law.2.1 349 = .ok (.iaload, 1) := by decide +kernel
theorem dL_law_350 : decode k_L_law.2.1 350 = .ok (.invokevirtual 31, 3) := by decide +kernel
theorem dL_law_353 : decode k_L_law.2.1 353 = .ok (.aload_n 2, 1) := by decide +kernel
theorem dL_law_354 : decode k_L_law.2.1 354 = .ok (.aload_n 0, 1) := by decide +kernel
theorem dL_law_355 : decode k_L_law.2.1 355 = .ok (.iload_n 3, 1) := by decide +kernel
theorem dL_law_356 : decode k_L_law.2.1 356 = .ok (.iconst 1, 1) := by decide +kernel
theorem dL_law_357 : decode k_L_law.2.1 357 = .ok (.iadd, 1) := by decide +kernel
theorem dL_law_358 : decode k_L_law.2.1 358 = .ok (.iaload, 1) := by decide +kernel
theorem dL_law_359 : decode k_L_law.2.1 359 = .ok (.invokevirtual 34, 3) := by decide +kernel
theorem dL_law_362 : decode k_L_law.2.1 362 = .ok (.if_icmp .eq 933, 3) := by decide +kernel
theorem dL_law_365 : decode k_L_law.2.1 365 = .ok (.iconst 0, 1) := by decide +kernel
theorem dL_law_366 : decode k_L_law.2.1 366 = .ok (.ireturn, 1) := by decide +kernel
theorem dL_law_367 : decode k_L_law.2.1 367 = .ok (.aload_n 1, 1) := by decide +kernel
theorem dL_law_368 : decode k_L_law.2.1 368 = .ok (.invokevirtual 35, 3) := by decide +kernel
theorem dL_law_371 : decode k_L_law.2.1 371 = .ok (.aload_n 2, 1) := by decide +kernel
theorem dL_law_372 : decode k_L_law.2.1 372 = .ok (.invokevirtual 39, 3) := by decide +kernel
theorem dL_law_375 : decode k_L_law.2.1 375 = .ok (.if_icmp .eq 920, 3) := by decide +kernel
theorem dL_law_378 : decode k_L_law.2.1 378 = .ok (.iconst 0, 1) := by decide +kernel
theorem dL_law_379 : decode k_L_law.2.1 379 = .ok (.ireturn, 1) := by decide +kernel
theorem dL_law_380 : decode k_L_law.2.1 380 = .ok (.aload_n 1, 1) := by decide +kernel
theorem dL_law_381 : decode k_L_law.2.1 381 = .ok (.invokevirtual 40, 3) := by decide +kernel
theorem dL_law_384 : decode k_L_law.2.1 384 = .ok (.aload_n 2, 1) := by decide +kernel
theorem dL_law_385 : decode k_L_law.2.1 385 = .ok (.invokevirtual 43, 3) := by decide +kernel
theorem dL_law_388 : decode k_L_law.2.1 388 = .ok (.if_icmp .eq 907, 3) := by decide +kernel
theorem dL_law_391 : decode k_L_law.2.1 391 = .ok (.iconst 0, 1) := by decide +kernel
theorem dL_law_392 : decode k_L_law.2.1 392 = .ok (.ireturn, 1) := by decide +kernel
theorem dL_law_393 : decode k_L_law.2.1 393 = .ok (.aload_n 1, 1) := by decide +kernel
theorem dL_law_394 : decode k_L_law.2.1 394 = .ok (.aload_n 0, 1) := by decide +kernel
theorem dL_law_395 : decode k_L_law.2.1 395 = .ok (.iload_n 3, 1) := by decide +kernel
theorem dL_law_396 : decode k_L_law.2.1 396 = .ok (.iconst 1, 1) := by decide +kernel
theorem dL_law_397 : decode k_L_law.2.1 397 = .ok (.iadd, 1) := by decide +kernel
theorem dL_law_398 : decode k_L_law.2.1 398 = .ok (.iaload, 1) := by decide +kernel
theorem dL_law_399 : decode k_L_law.2.1 399 = .ok (.aload_n 0, 1) := by decide +kernel
theorem dL_law_400 : decode k_L_law.2.1 400 = .ok (.iload_n 3, 1) := by decide +kernel
theorem dL_law_401 : decode k_L_law.2.1 401 = .ok (.iconst 2, 1) := by decide +kernel
theorem dL_law_402 : decode k_L_law.2.1 402 = .ok (.iadd, 1) := by decide +kernel
theorem dL_law_403 : decode k_L_law.2.1 403 = .ok (.iaload, 1) := by decide +kernel
theorem dL_law_404 : decode k_L_law.2.1 404 = .ok (.invokevirtual 44, 3) := by decide +kernel
theorem dL_law_407 : decode k_L_law.2.1 407 = .ok (.aload_n 2, 1) := by decide +kernel
theorem dL_law_408 : decode k_L_law.2.1 408 = .ok (.aload_n 0, 1) := by decide +kernel
theorem dL_law_409 : decode k_L_law.2.1 409 = .ok (.iload_n 3, 1) := by decide +kernel
theorem dL_law_410 : decode k_L_law.2.1 410 = .ok (.iconst 1, 1) := by decide +kernel
theorem dL_law_411 : decode k_L_law.2.1 411 = .ok (.iadd, 1) := by decide +kernel
theorem dL_law_412 : decode k_L_law.2.1 412 = .ok (.iaload, 1) := by decide +kernel
theorem dL_law_413 : decode k_L_law.2.1 413 = .ok (.aload_n 0, 1) := by decide +kernel
theorem dL_law_414 : decode k_L_law.2.1 414 = .ok (.iload_n 3, 1) := by decide +kernel
theorem dL_law_415 : decode k_L_law.2.1 415 = .ok (.iconst 2, 1) := by decide +kernel
theorem dL_law_416 : decode k_L_law.2.1 416 = .ok (.iadd, 1) := by decide +kernel
theorem dL_law_417 : decode k_L_law.2.1 417 = .ok (.iaload, 1) := by decide +kernel
theorem dL_law_418 : decode k_L_law.2.1 418 = .ok (.invokevirtual 48, 3) := by decide +kernel
theorem dL_law_421 : decode k_L_law.2.1 421 = .ok (.if_icmp .eq 874, 3) := by decide +kernel
theorem dL_law_424 : decode k_L_law.2.1 424 = .ok (.iconst 0, 1) := by decide +kernel
theorem dL_law_425 : decode k_L_law.2.1 425 = .ok (.ireturn, 1) := by decide +kernel
theorem dL_law_426 : decode k_L_law.2.1 426 = .ok (.aload_n 1, 1) := by decide +kernel
theorem dL_law_427 : decode k_L_law.2.1 427 = .ok (.aload_n 0, 1) := by decide +kernel
theorem dL_law_428 : decode k_L_law.2.1 428 = .ok (.iload_n 3, 1) := by decide +kernel
theorem dL_law_429 : decode k_L_law.2.1 429 = .ok (.iconst 1, 1) := by decide +kernel
theorem dL_law_430 : decode k_L_law.2.1 430 = .ok (.iadd, 1) := by decide +kernel
theorem dL_law_431 : decode k_L_law.2.1 431 = .ok (.iaload, 1) := by decide +kernel
theorem dL_law_432 : decode k_L_law.2.1 432 = .ok (.invokevirtual 49, 3) := by decide +kernel
theorem dL_law_435 : decode k_L_law.2.1 435 = .ok (.aload_n 2, 1) := by decide +kernel
theorem dL_law_436 : decode k_L_law.2.1 436 = .ok (.aload_n 0, 1) := by decide +kernel
theorem dL_law_437 : decode k_L_law.2.1 437 = .ok (.iload_n 3, 1) := by decide +kernel
theorem dL_law_438 : decode k_L_law.2.1 438 = .ok (.iconst 1, 1) := by decide +kernel
theorem dL_law_439 : decode k_L_law.2.1 439 = .ok (.iadd, 1) := by decide +kernel
theorem dL_law_440 : decode k_L_law.2.1 440 = .ok (.iaload, 1) := by decide +kernel
theorem dL_law_441 : decode k_L_law.2.1 441 = .ok (.invokevirtual 52, 3) := by decide +kernel
theorem dL_law_444 : decode k_L_law.2.1 444 = .ok (.if_icmp .eq 851, 3) := by decide +kernel
theorem dL_law_447 : decode k_L_law.2.1 447 = .ok (.iconst 0, 1) := by decide +kernel
theorem dL_law_448 : decode k_L_law.2.1 448 = .ok (.ireturn, 1) := by decide +kernel
theorem dL_law_449 : decode k_L_law.2.1 449 = .ok (.aload_n 1, 1) := by decide +kernel
theorem dL_law_450 : decode k_L_law.2.1 450 = .ok (.invokevirtual 53, 3) := by decide +kernel
theorem dL_law_453 : decode k_L_law.2.1 453 = .ok (.aload_n 2, 1) := by decide +kernel
theorem dL_law_454 : decode k_L_law.2.1 454 = .ok (.invokevirtual 56, 3) := by decide +kernel
theorem dL_law_457 : decode k_L_law.2.1 457 = .ok (.if_icmp .eq 838, 3) := by decide +kernel
theorem dL_law_460 : decode k_L_law.2.1 460 = .ok (.iconst 0, 1) := by decide +kernel
theorem dL_law_461 : decode k_L_law.2.1 461 = .ok (.ireturn, 1) := by decide +kernel
theorem dL_law_462 : decode k_L_law.2.1 462 = .ok (.aload_n 1, 1) := by decide +kernel
theorem dL_law_463 : decode k_L_law.2.1 463 = .ok (.invokevirtual 57, 3) := by decide +kernel
theorem dL_law_466 : decode k_L_law.2.1 466 = .ok (.aload_n 2, 1) := by decide +kernel
theorem dL_law_467 : decode k_L_law.2.1 467 = .ok (.invokevirtual 60, 3) := by decide +kernel
theorem dL_law_470 : decode k_L_law.2.1 470 = .ok (.if_icmp .eq 825, 3) := by decide +kernel
theorem dL_law_473 : decode k_L_law.2.1 473 = .ok (.iconst 0, 1) := by decide +kernel
theorem dL_law_474 : decode k_L_law.2.1 474 = .ok (.ireturn, 1) := by decide +kernel
theorem dL_law_475 : decode k_L_law.2.1 475 = .ok (.aload_n 1, 1) := by decide +kernel
theorem dL_law_476 : decode k_L_law.2.1 476 = .ok (.aload_n 0, 1) := by decide +kernel
theorem dL_law_477 : decode k_L_law.2.1 477 = .ok (.iload_n 3, 1) := by decide +kernel
theorem dL_law_478 : decode k_L_law.2.1 478 = .ok (.iconst 1, 1) := by decide +kernel
theorem dL_law_479 : decode k_L_law.2.1 479 = .ok (.iadd, 1) := by decide +kernel
theorem dL_law_480 : decode k_L_law.2.1 480 = .ok (.iaload, 1) := by decide +kernel
theorem dL_law_481 : decode k_L_law.2.1 481 = .ok (.aload_n 0, 1) := by decide +kernel
theorem dL_law_482 : decode k_L_law.2.1 482 = .ok (.iload_n 3, 1) := by decide +kernel
theorem dL_law_483 : decode k_L_law.2.1 483 = .ok (.iconst 2, 1) := by decide +kernel
theorem dL_law_484 : decode k_L_law.2.1 484 = .ok (.iadd, 1) := by decide +kernel
theorem dL_law_485 : decode k_L_law.2.1 485 = .ok (.iaload, 1) := by decide +kernel
theorem dL_law_486 : decode k_L_law.2.1 486 = .ok (.invokevirtual 61, 3) := by decide +kernel
theorem dL_law_489 : decode k_L_law.2.1 489 = .ok (.aload_n 2, 1) := by decide +kernel
theorem dL_law_490 : decode k_L_law.2.1 490 = .ok (.aload_n 0, 1) := by decide +kernel
theorem dL_law_491 : decode k_L_law.2.1 491 = .ok (.iload_n 3, 1) := by decide +kernel
theorem dL_law_492 : decode k_L_law.2.1 492 = .ok (.iconst 1, 1) := by decide +kernel
theorem dL_law_493 : decode k_L_law.2.1 493 = .ok (.iadd, 1) := by decide +kernel
theorem dL_law_494 : decode k_L_law.2.1 494 = .ok (.iaload, 1) := by decide +kernel
theorem dL_law_495 : decode k_L_law.2.1 495 = .ok (.aload_n 0, 1) := by decide +kernel
theorem dL_law_496 : decode k_L_law.2.1 496 = .ok (.iload_n 3, 1) := by decide +kernel
theorem dL_law_497 : decode k_L_law.2.1 497 = .ok (.iconst 2, 1) := by decide +kernel
theorem dL_law_498 : decode k_L_law.2.1 498 = .ok (.iadd, 1) := by decide +kernel
theorem dL_law_499 : decode k_L_law.2.1 499 = .ok (.iaload, 1) := by decide +kernel
theorem dL_law_500 : decode k_L_law.2.1 500 = .ok (.invokevirtual 64, 3) := by decide +kernel
theorem dL_law_503 : decode k_L_law.2.1 503 = .ok (.if_icmp .eq 792, 3) := by decide +kernel
theorem dL_law_506 : decode k_L_law.2.1 506 = .ok (.iconst 0, 1) := by decide +kernel
theorem dL_law_507 : decode k_L_law.2.1 507 = .ok (.ireturn, 1) := by decide +kernel
theorem dL_law_508 : decode k_L_law.2.1 508 = .ok (.aload_n 1, 1) := by decide +kernel
theorem dL_law_509 : decode k_L_law.2.1 509 = .ok (.aload_n 0, 1) := by decide +kernel
theorem dL_law_510 : decode k_L_law.2.1 510 = .ok (.iload_n 3, 1) := by decide +kernel
theorem dL_law_511 : decode k_L_law.2.1 511 = .ok (.iconst 1, 1) := by decide +kernel
theorem dL_law_512 : decode k_L_law.2.1 512 = .ok (.iadd, 1) := by decide +kernel
theorem dL_law_513 : decode k_L_law.2.1 513 = .ok (.iaload, 1) := by decide +kernel
theorem dL_law_514 : decode k_L_law.2.1 514 = .ok (.aload_n 0, 1) := by decide +kernel
theorem dL_law_515 : decode k_L_law.2.1 515 = .ok (.iload_n 3, 1) := by decide +kernel
theorem dL_law_516 : decode k_L_law.2.1 516 = .ok (.iconst 2, 1) := by decide +kernel
theorem dL_law_517 : decode k_L_law.2.1 517 = .ok (.iadd, 1) := by decide +kernel
theorem dL_law_518 : decode k_L_law.2.1 518 = .ok (.iaload, 1) := by decide +kernel
theorem dL_law_519 : decode k_L_law.2.1 519 = .ok (.invokevirtual 65, 3) := by decide +kernel
theorem dL_law_522 : decode k_L_law.2.1 522 = .ok (.aload_n 2, 1) := by decide +kernel
theorem dL_law_523 : decode k_L_law.2.1 523 = .ok (.aload_n 0, 1) := by decide +kernel
theorem dL_law_524 : decode k_L_law.2.1 524 = .ok (.iload_n 3, 1) := by decide +kernel
theorem dL_law_525 : decode k_L_law.2.1 525 = .ok (.iconst 1, 1) := by decide +kernel
theorem dL_law_526 : decode k_L_law.2.1 526 = .ok (.iadd, 1) := by decide +kernel
theorem dL_law_527 : decode k_L_law.2.1 527 = .ok (.iaload, 1) := by decide +kernel
theorem dL_law_528 : decode k_L_law.2.1 528 = .ok (.aload_n 0, 1) := by decide +kernel
theorem dL_law_529 : decode k_L_law.2.1 529 = .ok (.iload_n 3, 1) := by decide +kernel
theorem dL_law_530 : decode k_L_law.2.1 530 = .ok (.iconst 2, 1) := by decide +kernel
theorem dL_law_531 : decode k_L_law.2.1 531 = .ok (.iadd, 1) := by decide +kernel
theorem dL_law_532 : decode k_L_law.2.1 532 = .ok (.iaload, 1) := by decide +kernel
theorem dL_law_533 : decode k_L_law.2.1 533 = .ok (.invokevirtual 68, 3) := by decide +kernel
theorem dL_law_536 : decode k_L_law.2.1 536 = .ok (.if_icmp .eq 759, 3) := by decide +kernel
theorem dL_law_539 : decode k_L_law.2.1 539 = .ok (.iconst 0, 1) := by decide +kernel
theorem dL_law_540 : decode k_L_law.2.1 540 = .ok (.ireturn, 1) := by decide +kernel
theorem dL_law_541 : decode k_L_law.2.1 541 = .ok (.aload_n 1, 1) := by decide +kernel
theorem dL_law_542 : decode k_L_law.2.1 542 = .ok (.aload_n 0, 1) := by decide +kernel
theorem dL_law_543 : decode k_L_law.2.1 543 = .ok (.iload_n 3, 1) := by decide +kernel
theorem dL_law_544 : decode k_L_law.2.1 544 = .ok (.iconst 1, 1) := by decide +kernel
theorem dL_law_545 : decode k_L_law.2.1 545 = .ok (.iadd, 1) := by decide +kernel
theorem dL_law_546 : decode k_L_law.2.1 546 = .ok (.iaload, 1) := by decide +kernel
theorem dL_law_547 : decode k_L_law.2.1 547 = .ok (.aload_n 0, 1) := by decide +kernel
theorem dL_law_548 : decode k_L_law.2.1 548 = .ok (.iload_n 3, 1) := by decide +kernel
theorem dL_law_549 : decode k_L_law.2.1 549 = .ok (.iconst 2, 1) := by decide +kernel
theorem dL_law_550 : decode k_L_law.2.1 550 = .ok (.iadd, 1) := by decide +kernel
theorem dL_law_551 : decode k_L_law.2.1 551 = .ok (.iaload, 1) := by decide +kernel
theorem dL_law_552 : decode k_L_law.2.1 552 = .ok (.invokevirtual 69, 3) := by decide +kernel
theorem dL_law_555 : decode k_L_law.2.1 555 = .ok (.aload_n 2, 1) := by decide +kernel
theorem dL_law_556 : decode k_L_law.2.1 556 = .ok (.aload_n 0, 1) := by decide +kernel
theorem dL_law_557 : decode k_L_law.2.1 557 = .ok (.iload_n 3, 1) := by decide +kernel
theorem dL_law_558 : decode k_L_law.2.1 558 = .ok (.iconst 1, 1) := by decide +kernel
theorem dL_law_559 : decode k_L_law.2.1 559 = .ok (.iadd, 1) := by decide +kernel
theorem dL_law_560 : decode k_L_law.2.1 560 = .ok (.iaload, 1) := by decide +kernel
theorem dL_law_561 : decode k_L_law.2.1 561 = .ok (.aload_n 0, 1) := by decide +kernel
theorem dL_law_562 : decode k_L_law.2.1 562 = .ok (.iload_n 3, 1) := by decide +kernel
theorem dL_law_563 : decode k_L_law.2.1 563 = .ok (.iconst 2, 1) := by decide +kernel
theorem dL_law_564 : decode k_L_law.2.1 564 = .ok (.iadd, 1) := by decide +kernel
theorem dL_law_565 : decode k_L_law.2.1 565 = .ok (.iaload, 1) := by decide +kernel
theorem dL_law_566 : decode k_L_law.2.1 566 = .ok (.invokevirtual 72, 3) := by decide +kernel
theorem dL_law_569 : decode k_L_law.2.1 569 = .ok (.if_icmp .eq 726, 3) := by decide +kernel
theorem dL_law_572 : decode k_L_law.2.1 572 = .ok (.iconst 0, 1) := by decide +kernel
theorem dL_law_573 : decode k_L_law.2.1 573 = .ok (.ireturn, 1) := by decide +kernel
theorem dL_law_574 : decode k_L_law.2.1 574 = .ok (.aload_n 1, 1) := by decide +kernel
theorem dL_law_575 : decode k_L_law.2.1 575 = .ok (.aload_n 0, 1) := by decide +kernel
theorem dL_law_576 : decode k_L_law.2.1 576 = .ok (.iload_n 3, 1) := by decide +kernel
theorem dL_law_577 : decode k_L_law.2.1 577 = .ok (.iconst 1, 1) := by decide +kernel
theorem dL_law_578 : decode k_L_law.2.1 578 = .ok (.iadd, 1) := by decide +kernel
theorem dL_law_579 : decode k_L_law.2.1 579 = .ok (.iaload, 1) := by decide +kernel
theorem dL_law_580 : decode k_L_law.2.1 580 = .ok (.invokevirtual 73, 3) := by decide +kernel
theorem dL_law_583 : decode k_L_law.2.1 583 = .ok (.aload_n 2, 1) := by decide +kernel
theorem dL_law_584 : decode k_L_law.2.1 584 = .ok (.aload_n 0, 1) := by decide +kernel
theorem dL_law_585 : decode k_L_law.2.1 585 = .ok (.iload_n 3, 1) := by decide +kernel
theorem dL_law_586 : decode k_L_law.2.1 586 = .ok (.iconst 1, 1) := by decide +kernel
theorem dL_law_587 : decode k_L_law.2.1 587 = .ok (.iadd, 1) := by decide +kernel
theorem dL_law_588 : decode k_L_law.2.1 588 = .ok (.iaload, 1) := by decide +kernel
theorem dL_law_589 : decode k_L_law.2.1 589 = .ok (.invokevirtual 76, 3) := by decide +kernel
theorem dL_law_592 : decode k_L_law.2.1 592 = .ok (.if_icmp .eq 703, 3) := by decide +kernel
theorem dL_law_595 : decode k_L_law.2.1 595 = .ok (.iconst 0, 1) := by decide +kernel
theorem dL_law_596 : decode k_L_law.2.1 596 = .ok (.ireturn, 1) := by decide +kernel
theorem dL_law_597 : decode k_L_law.2.1 597 = .ok (.aload_n 1, 1) := by decide +kernel
theorem dL_law_598 : decode k_L_law.2.1 598 = .ok (.aload_n 0, 1) := by decide +kernel
theorem dL_law_599 : decode k_L_law.2.1 599 = .ok (.iload_n 3, 1) := by decide +kernel
theorem dL_law_600 : decode k_L_law.2.1 600 = .ok (.iconst 1, 1) := by decide +kernel
theorem dL_law_601 : decode k_L_law.2.1 601 = .ok (.iadd, 1) := by decide +kernel
theorem dL_law_602 : decode k_L_law.2.1 602 = .ok (.iaload, 1) := by decide +kernel
theorem dL_law_603 : decode k_L_law.2.1 603 = .ok (.aload_n 0, 1) := by decide +kernel
theorem dL_law_604 : decode k_L_law.2.1 604 = .ok (.iload_n 3, 1) := by decide +kernel
theorem dL_law_605 : decode k_L_law.2.1 605 = .ok (.iconst 2, 1) := by decide +kernel
theorem dL_law_606 : decode k_L_law.2.1 606 = .ok (.iadd, 1) := by decide +kernel
theorem dL_law_607 : decode k_L_law.2.1 607 = .ok (.iaload, 1) := by decide +kernel
theorem dL_law_608 : decode k_L_law.2.1 608 = .ok (.invokevirtual 77, 3) := by decide +kernel
theorem dL_law_611 : decode k_L_law.2.1 611 = .ok (.aload_n 2, 1) := by decide +kernel
theorem dL_law_612 : decode k_L_law.2.1 612 = .ok (.aload_n 0, 1) := by decide +kernel
theorem dL_law_613 : decode k_L_law.2.1 613 = .ok (.iload_n 3, 1) := by decide +kernel
theorem dL_law_614 : decode k_L_law.2.1 614 = .ok (.iconst 1, 1) := by decide +kernel
theorem dL_law_615 : decode k_L_law.2.1 615 = .ok (.iadd, 1) := by decide +kernel
theorem dL_law_616 : decode k_L_law.2.1 616 = .ok (.iaload, 1) := by decide +kernel
theorem dL_law_617 : decode k_L_law.2.1 617 = .ok (.aload_n 0, 1) := by decide +kernel
theorem dL_law_618 : decode k_L_law.2.1 618 = .ok (.iload_n 3, 1) := by decide +kernel
theorem dL_law_619 : decode k_L_law.2.1 619 = .ok (.iconst 2, 1) := by decide +kernel
theorem dL_law_620 : decode k_L_law.2.1 620 = .ok (.iadd, 1) := by decide +kernel
theorem dL_law_621 : decode k_L_law.2.1 621 = .ok (.iaload, 1) := by decide +kernel
theorem dL_law_622 : decode k_L_law.2.1 622 = .ok (.invokevirtual 80, 3) := by decide +kernel
theorem dL_law_625 : decode k_L_law.2.1 625 = .ok (.if_icmp .eq 670, 3) := by decide +kernel
theorem dL_law_628 : decode k_L_law.2.1 628 = .ok (.iconst 0, 1) := by decide +kernel
theorem dL_law_629 : decode k_L_law.2.1 629 = .ok (.ireturn, 1) := by decide +kernel
theorem dL_law_630 : decode k_L_law.2.1 630 = .ok (.aload_n 1, 1) := by decide +kernel
theorem dL_law_631 : decode k_L_law.2.1 631 = .ok (.aload_n 0, 1) := by decide +kernel
theorem dL_law_632 : decode k_L_law.2.1 632 = .ok (.iload_n 3, 1) := by decide +kernel
theorem dL_law_633 : decode k_L_law.2.1 633 = .ok (.iconst 1, 1) := by decide +kernel
theorem dL_law_634 : decode k_L_law.2.1 634 = .ok (.iadd, 1) := by decide +kernel
theorem dL_law_635 : decode k_L_law.2.1 635 = .ok (.iaload, 1) := by decide +kernel
theorem dL_law_636 : decode k_L_law.2.1 636 = .ok (.aload_n 0, 1) := by decide +kernel
theorem dL_law_637 : decode k_L_law.2.1 637 = .ok (.iload_n 3, 1) := by decide +kernel
theorem dL_law_638 : decode k_L_law.2.1 638 = .ok (.iconst 2, 1) := by decide +kernel
theorem dL_law_639 : decode k_L_law.2.1 639 = .ok (.iadd, 1) := by decide +kernel
theorem dL_law_640 : decode k_L_law.2.1 640 = .ok (.iaload, 1) := by decide +kernel
theorem dL_law_641 : decode k_L_law.2.1 641 = .ok (.invokevirtual 81, 3) := by decide +kernel
theorem dL_law_644 : decode k_L_law.2.1 644 = .ok (.aload_n 2, 1) := by decide +kernel
theorem dL_law_645 : decode k_L_law.2.1 645 = .ok (.aload_n 0, 1) := by decide +kernel
theorem dL_law_646 : decode k_L_law.2.1 646 = .ok (.iload_n 3, 1) := by decide +kernel
theorem dL_law_647 : decode k_L_law.2.1 647 = .ok (.iconst 1, 1) := by decide +kernel
theorem dL_law_648 : decode k_L_law.2.1 648 = .ok (.iadd, 1) := by decide +kernel
theorem dL_law_649 : decode k_L_law.2.1 649 = .ok (.iaload, 1) := by decide +kernel
theorem dL_law_650 : decode k_L_law.2.1 650 = .ok (.aload_n 0, 1) := by decide +kernel
theorem dL_law_651 : decode k_L_law.2.1 651 = .ok (.iload_n 3, 1) := by decide +kernel
theorem dL_law_652 : decode k_L_law.2.1 652 = .ok (.iconst 2, 1) := by decide +kernel
theorem dL_law_653 : decode k_L_law.2.1 653 = .ok (.iadd, 1) := by decide +kernel
theorem dL_law_654 : decode k_L_law.2.1 654 = .ok (.iaload, 1) := by decide +kernel
theorem dL_law_655 : decode k_L_law.2.1 655 = .ok (.invokevirtual 84, 3) := by decide +kernel
theorem dL_law_658 : decode k_L_law.2.1 658 = .ok (.if_icmp .eq 637, 3) := by decide +kernel
theorem dL_law_661 : decode k_L_law.2.1 661 = .ok (.iconst 0, 1) := by decide +kernel
theorem dL_law_662 : decode k_L_law.2.1 662 = .ok (.ireturn, 1) := by decide +kernel
theorem dL_law_663 : decode k_L_law.2.1 663 = .ok (.aload_n 1, 1) := by decide +kernel
theorem dL_law_664 : decode k_L_law.2.1 664 = .ok (.aload_n 0, 1) := by decide +kernel
theorem dL_law_665 : decode k_L_law.2.1 665 = .ok (.iload_n 3, 1) := by decide +kernel
theorem dL_law_666 : decode k_L_law.2.1 666 = .ok (.iconst 1, 1) := by decide +kernel
theorem dL_law_667 : decode k_L_law.2.1 667 = .ok (.iadd, 1) := by decide +kernel
theorem dL_law_668 : decode k_L_law.2.1 668 = .ok (.iaload, 1) := by decide +kernel
theorem dL_law_669 : decode k_L_law.2.1 669 = .ok (.aload_n 0, 1) := by decide +kernel
theorem dL_law_670 : decode k_L_law.2.1 670 = .ok (.iload_n 3, 1) := by decide +kernel
theorem dL_law_671 : decode k_L_law.2.1 671 = .ok (.iconst 2, 1) := by decide +kernel
theorem dL_law_672 : decode k_L_law.2.1 672 = .ok (.iadd, 1) := by decide +kernel
theorem dL_law_673 : decode k_L_law.2.1 673 = .ok (.iaload, 1) := by decide +kernel
theorem dL_law_674 : decode k_L_law.2.1 674 = .ok (.invokevirtual 85, 3) := by decide +kernel
theorem dL_law_677 : decode k_L_law.2.1 677 = .ok (.aload_n 2, 1) := by decide +kernel
theorem dL_law_678 : decode k_L_law.2.1 678 = .ok (.aload_n 0, 1) := by decide +kernel
theorem dL_law_679 : decode k_L_law.2.1 679 = .ok (.iload_n 3, 1) := by decide +kernel
theorem dL_law_680 : decode k_L_law.2.1 680 = .ok (.iconst 1, 1) := by decide +kernel
theorem dL_law_681 : decode k_L_law.2.1 681 = .ok (.iadd, 1) := by decide +kernel
theorem dL_law_682 : decode k_L_law.2.1 682 = .ok (.iaload, 1) := by decide +kernel
theorem dL_law_683 : decode k_L_law.2.1 683 = .ok (.aload_n 0, 1) := by decide +kernel
theorem dL_law_684 : decode k_L_law.2.1 684 = .ok (.iload_n 3, 1) := by decide +kernel
theorem dL_law_685 : decode k_L_law.2.1 685 = .ok (.iconst 2, 1) := by decide +kernel
theorem dL_law_686 : decode k_L_law.2.1 686 = .ok (.iadd, 1) := by decide +kernel
theorem dL_law_687 : decode k_L_law.2.1 687 = .ok (.iaload, 1) := by decide +kernel
theorem dL_law_688 : decode k_L_law.2.1 688 = .ok (.invokevirtual 88, 3) := by decide +kernel
theorem dL_law_691 : decode k_L_law.2.1 691 = .ok (.if_icmp .eq 604, 3) := by decide +kernel
theorem dL_law_694 : decode k_L_law.2.1 694 = .ok (.iconst 0, 1) := by decide +kernel
theorem dL_law_695 : decode k_L_law.2.1 695 = .ok (.ireturn, 1) := by decide +kernel
theorem dL_law_696 : decode k_L_law.2.1 696 = .ok (.aload_n 1, 1) := by decide +kernel
theorem dL_law_697 : decode k_L_law.2.1 697 = .ok (.aload_n 0, 1) := by decide +kernel
theorem dL_law_698 : decode k_L_law.2.1 698 = .ok (.iload_n 3, 1) := by decide +kernel
theorem dL_law_699 : decode k_L_law.2.1 699 = .ok (.iconst 1, 1) := by decide +kernel
theorem dL_law_700 : decode k_L_law.2.1 700 = .ok (.iadd, 1) := by decide +kernel
theorem dL_law_701 : decode k_L_law.2.1 701 = .ok (.iaload, 1) := by decide +kernel
theorem dL_law_702 : decode k_L_law.2.1 702 = .ok (.invokevirtual 89, 3) := by decide +kernel
theorem dL_law_705 : decode k_L_law.2.1 705 = .ok (.aload_n 2, 1) := by decide +kernel
theorem dL_law_706 : decode k_L_law.2.1 706 = .ok (.aload_n 0, 1) := by decide +kernel
theorem dL_law_707 : decode k_L_law.2.1 707 = .ok (.iload_n 3, 1) := by decide +kernel
theorem dL_law_708 : decode k_L_law.2.1 708 = .ok (.iconst 1, 1) := by decide +kernel
theorem dL_law_709 : decode k_L_law.2.1 709 = .ok (.iadd, 1) := by decide +kernel
theorem dL_law_710 : decode k_L_law.2.1 710 = .ok (.iaload, 1) := by decide +kernel
theorem dL_law_711 : decode k_L_law.2.1 711 = .ok (.invokevirtual 92, 3) := by decide +kernel
theorem dL_law_714 : decode k_L_law.2.1 714 = .ok (.if_icmp .eq 581, 3) := by decide +kernel
theorem dL_law_717 : decode k_L_law.2.1 717 = .ok (.iconst 0, 1) := by decide +kernel
theorem dL_law_718 : decode k_L_law.2.1 718 = .ok (.ireturn, 1) := by decide +kernel
theorem dL_law_719 : decode k_L_law.2.1 719 = .ok (.aload_n 1, 1) := by decide +kernel
theorem dL_law_720 : decode k_L_law.2.1 720 = .ok (.aload_n 0, 1) := by decide +kernel
theorem dL_law_721 : decode k_L_law.2.1 721 = .ok (.iload_n 3, 1) := by decide +kernel
theorem dL_law_722 : decode k_L_law.2.1 722 = .ok (.iconst 1, 1) := by decide +kernel
theorem dL_law_723 : decode k_L_law.2.1 723 = .ok (.iadd, 1) := by decide +kernel
theorem dL_law_724 : decode k_L_law.2.1 724 = .ok (.iaload, 1) := by decide +kernel
theorem dL_law_725 : decode k_L_law.2.1 725 = .ok (.invokevirtual 93, 3) := by decide +kernel
theorem dL_law_728 : decode k_L_law.2.1 728 = .ok (.aload_n 2, 1) := by decide +kernel
theorem dL_law_729 : decode k_L_law.2.1 729 = .ok (.aload_n 0, 1) := by decide +kernel
theorem dL_law_730 : decode k_L_law.2.1 730 = .ok (.iload_n 3, 1) := by decide +kernel
theorem dL_law_731 : decode k_L_law.2.1 731 = .ok (.iconst 1, 1) := by decide +kernel
theorem dL_law_732 : decode k_L_law.2.1 732 = .ok (.iadd, 1) := by decide +kernel
theorem dL_law_733 : decode k_L_law.2.1 733 = .ok (.iaload, 1) := by decide +kernel
theorem dL_law_734 : decode k_L_law.2.1 734 = .ok (.invokevirtual 96, 3) := by decide +kernel
theorem dL_law_737 : decode k_L_law.2.1 737 = .ok (.if_icmp .eq 558, 3) := by decide +kernel
theorem dL_law_740 : decode k_L_law.2.1 740 = .ok (.iconst 0, 1) := by decide +kernel
theorem dL_law_741 : decode k_L_law.2.1 741 = .ok (.ireturn, 1) := by decide +kernel
theorem dL_law_742 : decode k_L_law.2.1 742 = .ok (.aload_n 1, 1) := by decide +kernel
theorem dL_law_743 : decode k_L_law.2.1 743 = .ok (.aload_n 0, 1) := by decide +kernel
theorem dL_law_744 : decode k_L_law.2.1 744 = .ok (.iload_n 3, 1) := by decide +kernel
theorem dL_law_745 : decode k_L_law.2.1 745 = .ok (.iconst 1, 1) := by decide +kernel
theorem dL_law_746 : decode k_L_law.2.1 746 = .ok (.iadd, 1) := by decide +kernel
theorem dL_law_747 : decode k_L_law.2.1 747 = .ok (.iaload, 1) := by decide +kernel
theorem dL_law_748 : decode k_L_law.2.1 748 = .ok (.aload_n 0, 1) := by decide +kernel
theorem dL_law_749 : decode k_L_law.2.1 749 = .ok (.iload_n 3, 1) := by decide +kernel
theorem dL_law_750 : decode k_L_law.2.1 750 = .ok (.iconst 2, 1) := by decide +kernel
theorem dL_law_751 : decode k_L_law.2.1 751 = .ok (.iadd, 1) := by decide +kernel
theorem dL_law_752 : decode k_L_law.2.1 752 = .ok (.iaload, 1) := by decide +kernel
theorem dL_law_753 : decode k_L_law.2.1 753 = .ok (.invokevirtual 97, 3) := by decide +kernel
theorem dL_law_756 : decode k_L_law.2.1 756 = .ok (.aload_n 2, 1) := by decide +kernel
theorem dL_law_757 : decode k_L_law.2.1 757 = .ok (.aload_n 0, 1) := by decide +kernel
theorem dL_law_758 : decode k_L_law.2.1 758 = .ok (.iload_n 3, 1) := by decide +kernel
theorem dL_law_759 : decode k_L_law.2.1 759 = .ok (.iconst 1, 1) := by decide +kernel
theorem dL_law_760 : decode k_L_law.2.1 760 = .ok (.iadd, 1) := by decide +kernel
theorem dL_law_761 : decode k_L_law.2.1 761 = .ok (.iaload, 1) := by decide +kernel
theorem dL_law_762 : decode k_L_law.2.1 762 = .ok (.aload_n 0, 1) := by decide +kernel
theorem dL_law_763 : decode k_L_law.2.1 763 = .ok (.iload_n 3, 1) := by decide +kernel
theorem dL_law_764 : decode k_L_law.2.1 764 = .ok (.iconst 2, 1) := by decide +kernel
theorem dL_law_765 : decode k_L_law.2.1 765 = .ok (.iadd, 1) := by decide +kernel
theorem dL_law_766 : decode k_L_law.2.1 766 = .ok (.iaload, 1) := by decide +kernel
theorem dL_law_767 : decode k_L_law.2.1 767 = .ok (.invokevirtual 100, 3) := by decide +kernel
theorem dL_law_770 : decode k_L_law.2.1 770 = .ok (.if_icmp .eq 525, 3) := by decide +kernel
theorem dL_law_773 : decode k_L_law.2.1 773 = .ok (.iconst 0, 1) := by decide +kernel
theorem dL_law_774 : decode k_L_law.2.1 774 = .ok (.ireturn, 1) := by decide +kernel
theorem dL_law_775 : decode k_L_law.2.1 775 = .ok (.aload_n 1, 1) := by decide +kernel
theorem dL_law_776 : decode k_L_law.2.1 776 = .ok (.aload_n 0, 1) := by decide +kernel
theorem dL_law_777 : decode k_L_law.2.1 777 = .ok (.iload_n 3, 1) := by decide +kernel
theorem dL_law_778 : decode k_L_law.2.1 778 = .ok (.iconst 1, 1) := by decide +kernel
theorem dL_law_779 : decode k_L_law.2.1 779 = .ok (.iadd, 1) := by decide +kernel
theorem dL_law_780 : decode k_L_law.2.1 780 = .ok (.iaload, 1) := by decide +kernel
theorem dL_law_781 : decode k_L_law.2.1 781 = .ok (.aload_n 0, 1) := by decide +kernel
theorem dL_law_782 : decode k_L_law.2.1 782 = .ok (.iload_n 3, 1) := by decide +kernel
theorem dL_law_783 : decode k_L_law.2.1 783 = .ok (.iconst 2, 1) := by decide +kernel
theorem dL_law_784 : decode k_L_law.2.1 784 = .ok (.iadd, 1) := by decide +kernel
theorem dL_law_785 : decode k_L_law.2.1 785 = .ok (.iaload, 1) := by decide +kernel
theorem dL_law_786 : decode k_L_law.2.1 786 = .ok (.invokevirtual 101, 3) := by decide +kernel
theorem dL_law_789 : decode k_L_law.2.1 789 = .ok (.aload_n 2, 1) := by decide +kernel
theorem dL_law_790 : decode k_L_law.2.1 790 = .ok (.aload_n 0, 1) := by decide +kernel
theorem dL_law_791 : decode k_L_law.2.1 791 = .ok (.iload_n 3, 1) := by decide +kernel
theorem dL_law_792 : decode k_L_law.2.1 792 = .ok (.iconst 1, 1) := by decide +kernel
theorem dL_law_793 : decode k_L_law.2.1 793 = .ok (.iadd, 1) := by decide +kernel
theorem dL_law_794 : decode k_L_law.2.1 794 = .ok (.iaload, 1) := by decide +kernel
theorem dL_law_795 : decode k_L_law.2.1 795 = .ok (.aload_n 0, 1) := by decide +kernel
theorem dL_law_796 : decode k_L_law.2.1 796 = .ok (.iload_n 3, 1) := by decide +kernel
theorem dL_law_797 : decode k_L_law.2.1 797 = .ok (.iconst 2, 1) := by decide +kernel
theorem dL_law_798 : decode k_L_law.2.1 798 = .ok (.iadd, 1) := by decide +kernel
theorem dL_law_799 : decode k_L_law.2.1 799 = .ok (.iaload, 1) := by decide +kernel
theorem dL_law_800 : decode k_L_law.2.1 800 = .ok (.invokevirtual 104, 3) := by decide +kernel
theorem dL_law_803 : decode k_L_law.2.1 803 = .ok (.if_icmp .eq 492, 3) := by decide +kernel
theorem dL_law_806 : decode k_L_law.2.1 806 = .ok (.iconst 0, 1) := by decide +kernel
theorem dL_law_807 : decode k_L_law.2.1 807 = .ok (.ireturn, 1) := by decide +kernel
theorem dL_law_808 : decode k_L_law.2.1 808 = .ok (.aload_n 1, 1) := by decide +kernel
theorem dL_law_809 : decode k_L_law.2.1 809 = .ok (.aload_n 0, 1) := by decide +kernel
theorem dL_law_810 : decode k_L_law.2.1 810 = .ok (.iload_n 3, 1) := by decide +kernel
theorem dL_law_811 : decode k_L_law.2.1 811 = .ok (.iconst 1, 1) := by decide +kernel
theorem dL_law_812 : decode k_L_law.2.1 812 = .ok (.iadd, 1) := by decide +kernel
theorem dL_law_813 : decode k_L_law.2.1 813 = .ok (.iaload, 1) := by decide +kernel
theorem dL_law_814 : decode k_L_law.2.1 814 = .ok (.aload_n 0, 1) := by decide +kernel
theorem dL_law_815 : decode k_L_law.2.1 815 = .ok (.iload_n 3, 1) := by decide +kernel
theorem dL_law_816 : decode k_L_law.2.1 816 = .ok (.iconst 2, 1) := by decide +kernel
theorem dL_law_817 : decode k_L_law.2.1 817 = .ok (.iadd, 1) := by decide +kernel
theorem dL_law_818 : decode k_L_law.2.1 818 = .ok (.iaload, 1) := by decide +kernel
theorem dL_law_819 : decode k_L_law.2.1 819 = .ok (.invokevirtual 105, 3) := by decide +kernel
theorem dL_law_822 : decode k_L_law.2.1 822 = .ok (.aload_n 2, 1) := by decide +kernel
theorem dL_law_823 : decode k_L_law.2.1 823 = .ok (.aload_n 0, 1) := by decide +kernel
theorem dL_law_824 : decode k_L_law.2.1 824 = .ok (.iload_n 3, 1) := by decide +kernel
theorem dL_law_825 : decode k_L_law.2.1 825 = .ok (.iconst 1, 1) := by decide +kernel
theorem dL_law_826 : decode k_L_law.2.1 826 = .ok (.iadd, 1) := by decide +kernel
theorem dL_law_827 : decode k_L_law.2.1 827 = .ok (.iaload, 1) := by decide +kernel
theorem dL_law_828 : decode k_L_law.2.1 828 = .ok (.aload_n 0, 1) := by decide +kernel
theorem dL_law_829 : decode k_L_law.2.1 829 = .ok (.iload_n 3, 1) := by decide +kernel
theorem dL_law_830 : decode k_L_law.2.1 830 = .ok (.iconst 2, 1) := by decide +kernel
theorem dL_law_831 : decode k_L_law.2.1 831 = .ok (.iadd, 1) := by decide +kernel
theorem dL_law_832 : decode k_L_law.2.1 832 = .ok (.iaload, 1) := by decide +kernel
theorem dL_law_833 : decode k_L_law.2.1 833 = .ok (.invokevirtual 108, 3) := by decide +kernel
theorem dL_law_836 : decode k_L_law.2.1 836 = .ok (.if_icmp .eq 459, 3) := by decide +kernel
theorem dL_law_839 : decode k_L_law.2.1 839 = .ok (.iconst 0, 1) := by decide +kernel
theorem dL_law_840 : decode k_L_law.2.1 840 = .ok (.ireturn, 1) := by decide +kernel
theorem dL_law_841 : decode k_L_law.2.1 841 = .ok (.aload_n 1, 1) := by decide +kernel
theorem dL_law_842 : decode k_L_law.2.1 842 = .ok (.aload_n 0, 1) := by decide +kernel
theorem dL_law_843 : decode k_L_law.2.1 843 = .ok (.iload_n 3, 1) := by decide +kernel
theorem dL_law_844 : decode k_L_law.2.1 844 = .ok (.iconst 1, 1) := by decide +kernel
theorem dL_law_845 : decode k_L_law.2.1 845 = .ok (.iadd, 1) := by decide +kernel
theorem dL_law_846 : decode k_L_law.2.1 846 = .ok (.iaload, 1) := by decide +kernel
theorem dL_law_847 : decode k_L_law.2.1 847 = .ok (.aload_n 0, 1) := by decide +kernel
theorem dL_law_848 : decode k_L_law.2.1 848 = .ok (.iload_n 3, 1) := by decide +kernel
theorem dL_law_849 : decode k_L_law.2.1 849 = .ok (.iconst 2, 1) := by decide +kernel
theorem dL_law_850 : decode k_L_law.2.1 850 = .ok (.iadd, 1) := by decide +kernel
theorem dL_law_851 : decode k_L_law.2.1 851 = .ok (.iaload, 1) := by decide +kernel
theorem dL_law_852 : decode k_L_law.2.1 852 = .ok (.invokevirtual 109, 3) := by decide +kernel
theorem dL_law_855 : decode k_L_law.2.1 855 = .ok (.aload_n 2, 1) := by decide +kernel
theorem dL_law_856 : decode k_L_law.2.1 856 = .ok (.aload_n 0, 1) := by decide +kernel
theorem dL_law_857 : decode k_L_law.2.1 857 = .ok (.iload_n 3, 1) := by decide +kernel
theorem dL_law_858 : decode k_L_law.2.1 858 = .ok (.iconst 1, 1) := by decide +kernel
theorem dL_law_859 : decode k_L_law.2.1 859 = .ok (.iadd, 1) := by decide +kernel
theorem dL_law_860 : decode k_L_law.2.1 860 = .ok (.iaload, 1) := by decide +kernel
theorem dL_law_861 : decode k_L_law.2.1 861 = .ok (.aload_n 0, 1) := by decide +kernel
theorem dL_law_862 : decode k_L_law.2.1 862 = .ok (.iload_n 3, 1) := by decide +kernel
theorem dL_law_863 : decode k_L_law.2.1 863 = .ok (.iconst 2, 1) := by decide +kernel
theorem dL_law_864 : decode k_L_law.2.1 864 = .ok (.iadd, 1) := by decide +kernel
theorem dL_law_865 : decode k_L_law.2.1 865 = .ok (.iaload, 1) := by decide +kernel
theorem dL_law_866 : decode k_L_law.2.1 866 = .ok (.invokevirtual 112, 3) := by decide +kernel
theorem dL_law_869 : decode k_L_law.2.1 869 = .ok (.if_icmp .eq 426, 3) := by decide +kernel
theorem dL_law_872 : decode k_L_law.2.1 872 = .ok (.iconst 0, 1) := by decide +kernel
theorem dL_law_873 : decode k_L_law.2.1 873 = .ok (.ireturn, 1) := by decide +kernel
theorem dL_law_874 : decode k_L_law.2.1 874 = .ok (.aload_n 1, 1) := by decide +kernel
theorem dL_law_875 : decode k_L_law.2.1 875 = .ok (.aload_n 0, 1) := by decide +kernel
theorem dL_law_876 : decode k_L_law.2.1 876 = .ok (.iload_n 3, 1) := by decide +kernel
theorem dL_law_877 : decode k_L_law.2.1 877 = .ok (.iconst 1, 1) := by decide +kernel
theorem dL_law_878 : decode k_L_law.2.1 878 = .ok (.iadd, 1) := by decide +kernel
theorem dL_law_879 : decode k_L_law.2.1 879 = .ok (.iaload, 1) := by decide +kernel
theorem dL_law_880 : decode k_L_law.2.1 880 = .ok (.aload_n 0, 1) := by decide +kernel
theorem dL_law_881 : decode k_L_law.2.1 881 = .ok (.iload_n 3, 1) := by decide +kernel
theorem dL_law_882 : decode k_L_law.2.1 882 = .ok (.iconst 2, 1) := by decide +kernel
theorem dL_law_883 : decode k_L_law.2.1 883 = .ok (.iadd, 1) := by decide +kernel
theorem dL_law_884 : decode k_L_law.2.1 884 = .ok (.iaload, 1) := by decide +kernel
theorem dL_law_885 : decode k_L_law.2.1 885 = .ok (.invokevirtual 113, 3) := by decide +kernel
theorem dL_law_888 : decode k_L_law.2.1 888 = .ok (.aload_n 2, 1) := by decide +kernel
theorem dL_law_889 : decode k_L_law.2.1 889 = .ok (.aload_n 0, 1) := by decide +kernel
theorem dL_law_890 : decode k_L_law.2.1 890 = .ok (.iload_n 3, 1) := by decide +kernel
theorem dL_law_891 : decode k_L_law.2.1 891 = .ok (.iconst 1, 1) := by decide +kernel
theorem dL_law_892 : decode k_L_law.2.1 892 = .ok (.iadd, 1) := by decide +kernel
theorem dL_law_893 : decode k_L_law.2.1 893 = .ok (.iaload, 1) := by decide +kernel
theorem dL_law_894 : decode k_L_law.2.1 894 = .ok (.aload_n 0, 1) := by decide +kernel
theorem dL_law_895 : decode k_L_law.2.1 895 = .ok (.iload_n 3, 1) := by decide +kernel
theorem dL_law_896 : decode k_L_law.2.1 896 = .ok (.iconst 2, 1) := by decide +kernel
theorem dL_law_897 : decode k_L_law.2.1 897 = .ok (.iadd, 1) := by decide +kernel
theorem dL_law_898 : decode k_L_law.2.1 898 = .ok (.iaload, 1) := by decide +kernel
theorem dL_law_899 : decode k_L_law.2.1 899 = .ok (.invokevirtual 116, 3) := by decide +kernel
theorem dL_law_902 : decode k_L_law.2.1 902 = .ok (.if_icmp .eq 393, 3) := by decide +kernel
theorem dL_law_905 : decode k_L_law.2.1 905 = .ok (.iconst 0, 1) := by decide +kernel
theorem dL_law_906 : decode k_L_law.2.1 906 = .ok (.ireturn, 1) := by decide +kernel
theorem dL_law_907 : decode k_L_law.2.1 907 = .ok (.aload_n 1, 1) := by decide +kernel
theorem dL_law_908 : decode k_L_law.2.1 908 = .ok (.aload_n 0, 1) := by decide +kernel
theorem dL_law_909 : decode k_L_law.2.1 909 = .ok (.iload_n 3, 1) := by decide +kernel
theorem dL_law_910 : decode k_L_law.2.1 910 = .ok (.iconst 1, 1) := by decide +kernel
theorem dL_law_911 : decode k_L_law.2.1 911 = .ok (.iadd, 1) := by decide +kernel
theorem dL_law_912 : decode k_L_law.2.1 912 = .ok (.iaload, 1) := by decide +kernel
theorem dL_law_913 : decode k_L_law.2.1 913 = .ok (.aload_n 0, 1) := by decide +kernel
theorem dL_law_914 : decode k_L_law.2.1 914 = .ok (.iload_n 3, 1) := by decide +kernel
theorem dL_law_915 : decode k_L_law.2.1 915 = .ok (.iconst 2, 1) := by decide +kernel
theorem dL_law_916 : decode k_L_law.2.1 916 = .ok (.iadd, 1) := by decide +kernel
theorem dL_law_917 : decode k_L_law.2.1 917 = .ok (.iaload, 1) := by decide +kernel
theorem dL_law_918 : decode k_L_law.2.1 918 = .ok (.invokevirtual 117, 3) := by decide +kernel
theorem dL_law_921 : decode k_L_law.2.1 921 = .ok (.aload_n 2, 1) := by decide +kernel
theorem dL_law_922 : decode k_L_law.2.1 922 = .ok (.aload_n 0, 1) := by decide +kernel
theorem dL_law_923 : decode k_L_law.2.1 923 = .ok (.iload_n 3, 1) := by decide +kernel
theorem dL_law_924 : decode k_L_law.2.1 924 = .ok (.iconst 1, 1) := by decide +kernel
theorem dL_law_925 : decode k_L_law.2.1 925 = .ok (.iadd, 1) := by decide +kernel
theorem dL_law_926 : decode k_L_law.2.1 926 = .ok (.iaload, 1) := by decide +kernel
theorem dL_law_927 : decode k_L_law.2.1 927 = .ok (.aload_n 0, 1) := by decide +kernel
theorem dL_law_928 : decode k_L_law.2.1 928 = .ok (.iload_n 3, 1) := by decide +kernel
theorem dL_law_929 : decode k_L_law.2.1 929 = .ok (.iconst 2, 1) := by decide +kernel
theorem dL_law_930 : decode k_L_law.2.1 930 = .ok (.iadd, 1) := by decide +kernel
theorem dL_law_931 : decode k_L_law.2.1 931 = .ok (.iaload, 1) := by decide +kernel
theorem dL_law_932 : decode k_L_law.2.1 932 = .ok (.invokevirtual 120, 3) := by decide +kernel
theorem dL_law_935 : decode k_L_law.2.1 935 = .ok (.if_icmp .eq 360, 3) := by decide +kernel
theorem dL_law_938 : decode k_L_law.2.1 938 = .ok (.iconst 0, 1) := by decide +kernel
theorem dL_law_939 : decode k_L_law.2.1 939 = .ok (.ireturn, 1) := by decide +kernel
theorem dL_law_940 : decode k_L_law.2.1 940 = .ok (.aload_n 1, 1) := by decide +kernel
theorem dL_law_941 : decode k_L_law.2.1 941 = .ok (.aload_n 0, 1) := by decide +kernel
theorem dL_law_942 : decode k_L_law.2.1 942 = .ok (.iload_n 3, 1) := by decide +kernel
theorem dL_law_943 : decode k_L_law.2.1 943 = .ok (.iconst 1, 1) := by decide +kernel
theorem dL_law_944 : decode k_L_law.2.1 944 = .ok (.iadd, 1) := by decide +kernel
theorem dL_law_945 : decode k_L_law.2.1 945 = .ok (.iaload, 1) := by decide +kernel
theorem dL_law_946 : decode k_L_law.2.1 946 = .ok (.aload_n 0, 1) := by decide +kernel
theorem dL_law_947 : decode k_L_law.2.1 947 = .ok (.iload_n 3, 1) := by decide +kernel
theorem dL_law_948 : decode k_L_law.2.1 948 = .ok (.iconst 2, 1) := by decide +kernel
theorem dL_law_949 : decode k_L_law.2.1 949 = .ok (.iadd, 1) := by decide +kernel
theorem dL_law_950 : decode k_L_law.2.1 950 = .ok (.iaload, 1) := by decide +kernel
theorem dL_law_951 : decode k_L_law.2.1 951 = .ok (.invokevirtual 121, 3) := by decide +kernel
theorem dL_law_954 : decode k_L_law.2.1 954 = .ok (.aload_n 2, 1) := by decide +kernel
theorem dL_law_955 : decode k_L_law.2.1 955 = .ok (.aload_n 0, 1) := by decide +kernel
theorem dL_law_956 : decode k_L_law.2.1 956 = .ok (.iload_n 3, 1) := by decide +kernel
theorem dL_law_957 : decode k_L_law.2.1 957 = .ok (.iconst 1, 1) := by decide +kernel
theorem dL_law_958 : decode k_L_law.2.1 958 = .ok (.iadd, 1) := by decide +kernel
theorem dL_law_959 : decode k_L_law.2.1 959 = .ok (.iaload, 1) := by decide +kernel
theorem dL_law_960 : decode k_L_law.2.1 960 = .ok (.aload_n 0, 1) := by decide +kernel
theorem dL_law_961 : decode k_L_law.2.1 961 = .ok (.iload_n 3, 1) := by decide +kernel
theorem dL_law_962 : decode k_L_law.2.1 962 = .ok (.iconst 2, 1) := by decide +kernel
theorem dL_law_963 : decode k_L_law.2.1 963 = .ok (.iadd, 1) := by decide +kernel
theorem dL_law_964 : decode k_L_law.2.1 964 = .ok (.iaload, 1) := by decide +kernel
theorem dL_law_965 : decode k_L_law.2.1 965 = .ok (.invokevirtual 124, 3) := by decide +kernel
theorem dL_law_968 : decode k_L_law.2.1 968 = .ok (.if_icmp .eq 327, 3) := by decide +kernel
theorem dL_law_971 : decode k_L_law.2.1 971 = .ok (.iconst 0, 1) := by decide +kernel
theorem dL_law_972 : decode k_L_law.2.1 972 = .ok (.ireturn, 1) := by decide +kernel
theorem dL_law_973 : decode k_L_law.2.1 973 = .ok (.aload_n 1, 1) := by decide +kernel
theorem dL_law_974 : decode k_L_law.2.1 974 = .ok (.invokevirtual 125, 3) := by decide +kernel
theorem dL_law_977 : decode k_L_law.2.1 977 = .ok (.aload_n 2, 1) := by decide +kernel
theorem dL_law_978 : decode k_L_law.2.1 978 = .ok (.invokevirtual 128, 3) := by decide +kernel
theorem dL_law_981 : decode k_L_law.2.1 981 = .ok (.if_icmp .eq 314, 3) := by decide +kernel
theorem dL_law_984 : decode k_L_law.2.1 984 = .ok (.iconst 0, 1) := by decide +kernel
theorem dL_law_985 : decode k_L_law.2.1 985 = .ok (.ireturn, 1) := by decide +kernel
theorem dL_law_986 : decode k_L_law.2.1 986 = .ok (.aload_n 1, 1) := by decide +kernel
theorem dL_law_987 : decode k_L_law.2.1 987 = .ok (.invokevirtual 129, 3) := by decide +kernel
theorem dL_law_990 : decode k_L_law.2.1 990 = .ok (.aload_n 2, 1) := by decide +kernel
theorem dL_law_991 : decode k_L_law.2.1 991 = .ok (.invokevirtual 132, 3) := by decide +kernel
theorem dL_law_994 : decode k_L_law.2.1 994 = .ok (.if_icmp .eq 301, 3) := by decide +kernel
theorem dL_law_997 : decode k_L_law.2.1 997 = .ok (.iconst 0, 1) := by decide +kernel
theorem dL_law_998 : decode k_L_law.2.1 998 = .ok (.ireturn, 1) := by decide +kernel
theorem dL_law_999 : decode k_L_law.2.1 999 = .ok (.aload_n 1, 1) := by decide +kernel
theorem dL_law_1000 : decode k_L_law.2.1 1000 = .ok (.aload_n 0, 1) := by decide +kernel
theorem dL_law_1001 : decode k_L_law.2.1 1001 = .ok (.iload_n 3, 1) := by decide +kernel
theorem dL_law_1002 : decode k_L_law.2.1 1002 = .ok (.iconst 1, 1) := by decide +kernel
theorem dL_law_1003 : decode k_L_law.2.1 1003 = .ok (.iadd, 1) := by decide +kernel
theorem dL_law_1004 : decode k_L_law.2.1 1004 = .ok (.iaload, 1) := by decide +kernel
theorem dL_law_1005 : decode k_L_law.2.1 1005 = .ok (.invokevirtual 133, 3) := by decide +kernel
theorem dL_law_1008 : decode k_L_law.2.1 1008 = .ok (.aload_n 2, 1) := by decide +kernel
theorem dL_law_1009 : decode k_L_law.2.1 1009 = .ok (.aload_n 0, 1) := by decide +kernel
theorem dL_law_1010 : decode k_L_law.2.1 1010 = .ok (.iload_n 3, 1) := by decide +kernel
theorem dL_law_1011 : decode k_L_law.2.1 1011 = .ok (.iconst 1, 1) := by decide +kernel
theorem dL_law_1012 : decode k_L_law.2.1 1012 = .ok (.iadd, 1) := by decide +kernel
theorem dL_law_1013 : decode k_L_law.2.1 1013 = .ok (.iaload, 1) := by decide +kernel
theorem dL_law_1014 : decode k_L_law.2.1 1014 = .ok (.invokevirtual 136, 3) := by decide +kernel
theorem dL_law_1017 : decode k_L_law.2.1 1017 = .ok (.if_icmp .eq 278, 3) := by decide +kernel
theorem dL_law_1020 : decode k_L_law.2.1 1020 = .ok (.iconst 0, 1) := by decide +kernel
theorem dL_law_1021 : decode k_L_law.2.1 1021 = .ok (.ireturn, 1) := by decide +kernel
theorem dL_law_1022 : decode k_L_law.2.1 1022 = .ok (.aload_n 1, 1) := by decide +kernel
theorem dL_law_1023 : decode k_L_law.2.1 1023 = .ok (.aload_n 0, 1) := by decide +kernel
theorem dL_law_1024 : decode k_L_law.2.1 1024 = .ok (.iload_n 3, 1) := by decide +kernel
theorem dL_law_1025 : decode k_L_law.2.1 1025 = .ok (.iconst 1, 1) := by decide +kernel
theorem dL_law_1026 : decode k_L_law.2.1 1026 = .ok (.iadd, 1) := by decide +kernel
theorem dL_law_1027 : decode k_L_law.2.1 1027 = .ok (.iaload, 1) := by decide +kernel
theorem dL_law_1028 : decode k_L_law.2.1 1028 = .ok (.invokevirtual 137, 3) := by decide +kernel
theorem dL_law_1031 : decode k_L_law.2.1 1031 = .ok (.aload_n 2, 1) := by decide +kernel
theorem dL_law_1032 : decode k_L_law.2.1 1032 = .ok (.aload_n 0, 1) := by decide +kernel
theorem dL_law_1033 : decode k_L_law.2.1 1033 = .ok (.iload_n 3, 1) := by decide +kernel
theorem dL_law_1034 : decode k_L_law.2.1 1034 = .ok (.iconst 1, 1) := by decide +kernel
theorem dL_law_1035 : decode k_L_law.2.1 1035 = .ok (.iadd, 1) := by decide +kernel
theorem dL_law_1036 : decode k_L_law.2.1 1036 = .ok (.iaload, 1) := by decide +kernel
theorem dL_law_1037 : decode k_L_law.2.1 1037 = .ok (.invokevirtual 140, 3) := by decide +kernel
theorem dL_law_1040 : decode k_L_law.2.1 1040 = .ok (.if_icmp .eq 255, 3) := by decide +kernel
theorem dL_law_1043 : decode k_L_law.2.1 1043 = .ok (.iconst 0, 1) := by decide +kernel
theorem dL_law_1044 : decode k_L_law.2.1 1044 = .ok (.ireturn, 1) := by decide +kernel
theorem dL_law_1045 : decode k_L_law.2.1 1045 = .ok (.aload_n 1, 1) := by decide +kernel
theorem dL_law_1046 : decode k_L_law.2.1 1046 = .ok (.aload_n 0, 1) := by decide +kernel
theorem dL_law_1047 : decode k_L_law.2.1 1047 = .ok (.iload_n 3, 1) := by decide +kernel
theorem dL_law_1048 : decode k_L_law.2.1 1048 = .ok (.iconst 1, 1) := by decide +kernel
theorem dL_law_1049 : decode k_L_law.2.1 1049 = .ok (.iadd, 1) := by decide +kernel
theorem dL_law_1050 : decode k_L_law.2.1 1050 = .ok (.iaload, 1) := by decide +kernel
theorem dL_law_1051 : decode k_L_law.2.1 1051 = .ok (.aload_n 0, 1) := by decide +kernel
theorem dL_law_1052 : decode k_L_law.2.1 1052 = .ok (.iload_n 3, 1) := by decide +kernel
theorem dL_law_1053 : decode k_L_law.2.1 1053 = .ok (.iconst 2, 1) := by decide +kernel
theorem dL_law_1054 : decode k_L_law.2.1 1054 = .ok (.iadd, 1) := by decide +kernel
theorem dL_law_1055 : decode k_L_law.2.1 1055 = .ok (.iaload, 1) := by decide +kernel
theorem dL_law_1056 : decode k_L_law.2.1 1056 = .ok (.invokevirtual 141, 3) := by decide +kernel
theorem dL_law_1059 : decode k_L_law.2.1 1059 = .ok (.aload_n 2, 1) := by decide +kernel
theorem dL_law_1060 : decode k_L_law.2.1 1060 = .ok (.aload_n 0, 1) := by decide +kernel
theorem dL_law_1061 : decode k_L_law.2.1 1061 = .ok (.iload_n 3, 1) := by decide +kernel
theorem dL_law_1062 : decode k_L_law.2.1 1062 = .ok (.iconst 1, 1) := by decide +kernel
theorem dL_law_1063 : decode k_L_law.2.1 1063 = .ok (.iadd, 1) := by decide +kernel
theorem dL_law_1064 : decode k_L_law.2.1 1064 = .ok (.iaload, 1) := by decide +kernel
theorem dL_law_1065 : decode k_L_law.2.1 1065 = .ok (.aload_n 0, 1) := by decide +kernel
theorem dL_law_1066 : decode k_L_law.2.1 1066 = .ok (.iload_n 3, 1) := by decide +kernel
theorem dL_law_1067 : decode k_L_law.2.1 1067 = .ok (.iconst 2, 1) := by decide +kernel
theorem dL_law_1068 : decode k_L_law.2.1 1068 = .ok (.iadd, 1) := by decide +kernel
theorem dL_law_1069 : decode k_L_law.2.1 1069 = .ok (.iaload, 1) := by decide +kernel
theorem dL_law_1070 : decode k_L_law.2.1 1070 = .ok (.invokevirtual 144, 3) := by decide +kernel
theorem dL_law_1073 : decode k_L_law.2.1 1073 = .ok (.if_icmp .eq 222, 3) := by decide +kernel
theorem dL_law_1076 : decode k_L_law.2.1 1076 = .ok (.iconst 0, 1) := by decide +kernel
theorem dL_law_1077 : decode k_L_law.2.1 1077 = .ok (.ireturn, 1) := by decide +kernel
theorem dL_law_1078 : decode k_L_law.2.1 1078 = .ok (.aload_n 1, 1) := by decide +kernel
theorem dL_law_1079 : decode k_L_law.2.1 1079 = .ok (.aload_n 0, 1) := by decide +kernel
theorem dL_law_1080 : decode k_L_law.2.1 1080 = .ok (.iload_n 3, 1) := by decide +kernel
theorem dL_law_1081 : decode k_L_law.2.1 1081 = .ok (.iconst 1, 1) := by decide +kernel
theorem dL_law_1082 : decode k_L_law.2.1 1082 = .ok (.iadd, 1) := by decide +kernel
theorem dL_law_1083 : decode k_L_law.2.1 1083 = .ok (.iaload, 1) := by decide +kernel
theorem dL_law_1084 : decode k_L_law.2.1 1084 = .ok (.invokevirtual 145, 3) := by decide +kernel
theorem dL_law_1087 : decode k_L_law.2.1 1087 = .ok (.aload_n 2, 1) := by decide +kernel
theorem dL_law_1088 : decode k_L_law.2.1 1088 = .ok (.aload_n 0, 1) := by decide +kernel
theorem dL_law_1089 : decode k_L_law.2.1 1089 = .ok (.iload_n 3, 1) := by decide +kernel
theorem dL_law_1090 : decode k_L_law.2.1 1090 = .ok (.iconst 1, 1) := by decide +kernel
theorem dL_law_1091 : decode k_L_law.2.1 1091 = .ok (.iadd, 1) := by decide +kernel
theorem dL_law_1092 : decode k_L_law.2.1 1092 = .ok (.iaload, 1) := by decide +kernel
theorem dL_law_1093 : decode k_L_law.2.1 1093 = .ok (.invokevirtual 148, 3) := by decide +kernel
theorem dL_law_1096 : decode k_L_law.2.1 1096 = .ok (.if_icmp .eq 199, 3) := by decide +kernel
theorem dL_law_1099 : decode k_L_law.2.1 1099 = .ok (.iconst 0, 1) := by decide +kernel
theorem dL_law_1100 : decode k_L_law.2.1 1100 = .ok (.ireturn, 1) := by decide +kernel
theorem dL_law_1101 : decode k_L_law.2.1 1101 = .ok (.aload_n 1, 1) := by decide +kernel
theorem dL_law_1102 : decode k_L_law.2.1 1102 = .ok (.aload_n 0, 1) := by decide +kernel
theorem dL_law_1103 : decode k_L_law.2.1 1103 = .ok (.iload_n 3, 1) := by decide +kernel
theorem dL_law_1104 : decode k_L_law.2.1 1104 = .ok (.iconst 1, 1) := by decide +kernel
theorem dL_law_1105 : decode k_L_law.2.1 1105 = .ok (.iadd, 1) := by decide +kernel
theorem dL_law_1106 : decode k_L_law.2.1 1106 = .ok (.iaload, 1) := by decide +kernel
theorem dL_law_1107 : decode k_L_law.2.1 1107 = .ok (.invokevirtual 149, 3) := by decide +kernel
theorem dL_law_1110 : decode k_L_law.2.1 1110 = .ok (.aload_n 2, 1) := by decide +kernel
theorem dL_law_1111 : decode k_L_law.2.1 1111 = .ok (.aload_n 0, 1) := by decide +kernel
theorem dL_law_1112 : decode k_L_law.2.1 1112 = .ok (.iload_n 3, 1) := by decide +kernel
theorem dL_law_1113 : decode k_L_law.2.1 1113 = .ok (.iconst 1, 1) := by decide +kernel
theorem dL_law_1114 : decode k_L_law.2.1 1114 = .ok (.iadd, 1) := by decide +kernel
theorem dL_law_1115 : decode k_L_law.2.1 1115 = .ok (.iaload, 1) := by decide +kernel
theorem dL_law_1116 : decode k_L_law.2.1 1116 = .ok (.invokevirtual 152, 3) := by decide +kernel
theorem dL_law_1119 : decode k_L_law.2.1 1119 = .ok (.if_icmp .eq 176, 3) := by decide +kernel
theorem dL_law_1122 : decode k_L_law.2.1 1122 = .ok (.iconst 0, 1) := by decide +kernel
theorem dL_law_1123 : decode k_L_law.2.1 1123 = .ok (.ireturn, 1) := by decide +kernel
theorem dL_law_1124 : decode k_L_law.2.1 1124 = .ok (.aload_n 1, 1) := by decide +kernel
theorem dL_law_1125 : decode k_L_law.2.1 1125 = .ok (.aload_n 0, 1) := by decide +kernel
theorem dL_law_1126 : decode k_L_law.2.1 1126 = .ok (.iload_n 3, 1) := by decide +kernel
theorem dL_law_1127 : decode k_L_law.2.1 1127 = .ok (.iconst 1, 1) := by decide +kernel
theorem dL_law_1128 : decode k_L_law.2.1 1128 = .ok (.iadd, 1) := by decide +kernel
theorem dL_law_1129 : decode k_L_law.2.1 1129 = .ok (.iaload, 1) := by decide +kernel
theorem dL_law_1130 : decode k_L_law.2.1 1130 = .ok (.invokevirtual 153, 3) := by decide +kernel
theorem dL_law_1133 : decode k_L_law.2.1 1133 = .ok (.aload_n 2, 1) := by decide +kernel
theorem dL_law_1134 : decode k_L_law.2.1 1134 = .ok (.aload_n 0, 1) := by decide +kernel
theorem dL_law_1135 : decode k_L_law.2.1 1135 = .ok (.iload_n 3, 1) := by decide +kernel
theorem dL_law_1136 : decode k_L_law.2.1 1136 = .ok (.iconst 1, 1) := by decide +kernel
theorem dL_law_1137 : decode k_L_law.2.1 1137 = .ok (.iadd, 1) := by decide +kernel
theorem dL_law_1138 : decode k_L_law.2.1 1138 = .ok (.iaload, 1) := by decide +kernel
theorem dL_law_1139 : decode k_L_law.2.1 1139 = .ok (.invokevirtual 156, 3) := by decide +kernel
theorem dL_law_1142 : decode k_L_law.2.1 1142 = .ok (.if_icmp .eq 153, 3) := by decide +kernel
theorem dL_law_1145 : decode k_L_law.2.1 1145 = .ok (.iconst 0, 1) := by decide +kernel
theorem dL_law_1146 : decode k_L_law.2.1 1146 = .ok (.ireturn, 1) := by decide +kernel
theorem dL_law_1147 : decode k_L_law.2.1 1147 = .ok (.aload_n 1, 1) := by decide +kernel
theorem dL_law_1148 : decode k_L_law.2.1 1148 = .ok (.aload_n 0, 1) := by decide +kernel
theorem dL_law_1149 : decode k_L_law.2.1 1149 = .ok (.iload_n 3, 1) := by decide +kernel
theorem dL_law_1150 : decode k_L_law.2.1 1150 = .ok (.iconst 1, 1) := by decide +kernel
theorem dL_law_1151 : decode k_L_law.2.1 1151 = .ok (.iadd, 1) := by decide +kernel
theorem dL_law_1152 : decode k_L_law.2.1 1152 = .ok (.iaload, 1) := by decide +kernel
theorem dL_law_1153 : decode k_L_law.2.1 1153 = .ok (.aload_n 0, 1) := by decide +kernel
theorem dL_law_1154 : decode k_L_law.2.1 1154 = .ok (.iload_n 3, 1) := by decide +kernel
theorem dL_law_1155 : decode k_L_law.2.1 1155 = .ok (.iconst 2, 1) := by decide +kernel
theorem dL_law_1156 : decode k_L_law.2.1 1156 = .ok (.iadd, 1) := by decide +kernel
theorem dL_law_1157 : decode k_L_law.2.1 1157 = .ok (.iaload, 1) := by decide +kernel
theorem dL_law_1158 : decode k_L_law.2.1 1158 = .ok (.invokevirtual 157, 3) := by decide +kernel
theorem dL_law_1161 : decode k_L_law.2.1 1161 = .ok (.aload_n 2, 1) := by decide +kernel
theorem dL_law_1162 : decode k_L_law.2.1 1162 = .ok (.aload_n 0, 1) := by decide +kernel
theorem dL_law_1163 : decode k_L_law.2.1 1163 = .ok (.iload_n 3, 1) := by decide +kernel
theorem dL_law_1164 : decode k_L_law.2.1 1164 = .ok (.iconst 1, 1) := by decide +kernel
theorem dL_law_1165 : decode k_L_law.2.1 1165 = .ok (.iadd, 1) := by decide +kernel
theorem dL_law_1166 : decode k_L_law.2.1 1166 = .ok (.iaload, 1) := by decide +kernel
theorem dL_law_1167 : decode k_L_law.2.1 1167 = .ok (.aload_n 0, 1) := by decide +kernel
theorem dL_law_1168 : decode k_L_law.2.1 1168 = .ok (.iload_n 3, 1) := by decide +kernel
theorem dL_law_1169 : decode k_L_law.2.1 1169 = .ok (.iconst 2, 1) := by decide +kernel
theorem dL_law_1170 : decode k_L_law.2.1 1170 = .ok (.iadd, 1) := by decide +kernel
theorem dL_law_1171 : decode k_L_law.2.1 1171 = .ok (.iaload, 1) := by decide +kernel
theorem dL_law_1172 : decode k_L_law.2.1 1172 = .ok (.invokevirtual 160, 3) := by decide +kernel
theorem dL_law_1175 : decode k_L_law.2.1 1175 = .ok (.if_icmp .eq 120, 3) := by decide +kernel
theorem dL_law_1178 : decode k_L_law.2.1 1178 = .ok (.iconst 0, 1) := by decide +kernel
theorem dL_law_1179 : decode k_L_law.2.1 1179 = .ok (.ireturn, 1) := by decide +kernel
theorem dL_law_1180 : decode k_L_law.2.1 1180 = .ok (.aload_n 1, 1) := by decide +kernel
theorem dL_law_1181 : decode k_L_law.2.1 1181 = .ok (.aload_n 0, 1) := by decide +kernel
theorem dL_law_1182 : decode k_L_law.2.1 1182 = .ok (.iload_n 3, 1) := by decide +kernel
theorem dL_law_1183 : decode k_L_law.2.1 1183 = .ok (.iconst 1, 1) := by decide +kernel
theorem dL_law_1184 : decode k_L_law.2.1 1184 = .ok (.iadd, 1) := by decide +kernel
theorem dL_law_1185 : decode k_L_law.2.1 1185 = .ok (.iaload, 1) := by decide +kernel
theorem dL_law_1186 : decode k_L_law.2.1 1186 = .ok (.invokevirtual 161, 3) := by decide +kernel
theorem dL_law_1189 : decode k_L_law.2.1 1189 = .ok (.aload_n 2, 1) := by decide +kernel
theorem dL_law_1190 : decode k_L_law.2.1 1190 = .ok (.aload_n 0, 1) := by decide +kernel
theorem dL_law_1191 : decode k_L_law.2.1 1191 = .ok (.iload_n 3, 1) := by decide +kernel
theorem dL_law_1192 : decode k_L_law.2.1 1192 = .ok (.iconst 1, 1) := by decide +kernel
theorem dL_law_1193 : decode k_L_law.2.1 1193 = .ok (.iadd, 1) := by decide +kernel
theorem dL_law_1194 : decode k_L_law.2.1 1194 = .ok (.iaload, 1) := by decide +kernel
theorem dL_law_1195 : decode k_L_law.2.1 1195 = .ok (.invokevirtual 164, 3) := by decide +kernel
theorem dL_law_1198 : decode k_L_law.2.1 1198 = .ok (.if_icmp .eq 97, 3) := by decide +kernel
theorem dL_law_1201 : decode k_L_law.2.1 1201 = .ok (.iconst 0, 1) := by decide +kernel
theorem dL_law_1202 : decode k_L_law.2.1 1202 = .ok (.ireturn, 1) := by decide +kernel
theorem dL_law_1203 : decode k_L_law.2.1 1203 = .ok (.aload_n 1, 1) := by decide +kernel
theorem dL_law_1204 : decode k_L_law.2.1 1204 = .ok (.aload_n 0, 1) := by decide +kernel
theorem dL_law_1205 : decode k_L_law.2.1 1205 = .ok (.iload_n 3, 1) := by decide +kernel
theorem dL_law_1206 : decode k_L_law.2.1 1206 = .ok (.iconst 1, 1) := by decide +kernel
theorem dL_law_1207 : decode k_L_law.2.1 1207 = .ok (.iadd, 1) := by decide +kernel
theorem dL_law_1208 : decode k_L_law.2.1 1208 = .ok (.iaload, 1) := by decide +kernel
theorem dL_law_1209 : decode k_L_law.2.1 1209 = .ok (.invokevirtual 165, 3) := by decide +kernel
theorem dL_law_1212 : decode k_L_law.2.1 1212 = .ok (.aload_n 2, 1) := by decide +kernel
theorem dL_law_1213 : decode k_L_law.2.1 1213 = .ok (.aload_n 0, 1) := by decide +kernel
theorem dL_law_1214 : decode k_L_law.2.1 1214 = .ok (.iload_n 3, 1) := by decide +kernel
theorem dL_law_1215 : decode k_L_law.2.1 1215 = .ok (.iconst 1, 1) := by decide +kernel
theorem dL_law_1216 : decode k_L_law.2.1 1216 = .ok (.iadd, 1) := by decide +kernel
theorem dL_law_1217 : decode k_L_law.2.1 1217 = .ok (.iaload, 1) := by decide +kernel
theorem dL_law_1218 : decode k_L_law.2.1 1218 = .ok (.invokevirtual 168, 3) := by decide +kernel
theorem dL_law_1221 : decode k_L_law.2.1 1221 = .ok (.if_icmp .eq 74, 3) := by decide +kernel
theorem dL_law_1224 : decode k_L_law.2.1 1224 = .ok (.iconst 0, 1) := by decide +kernel
theorem dL_law_1225 : decode k_L_law.2.1 1225 = .ok (.ireturn, 1) := by decide +kernel
theorem dL_law_1226 : decode k_L_law.2.1 1226 = .ok (.aload_n 1, 1) := by decide +kernel
theorem dL_law_1227 : decode k_L_law.2.1 1227 = .ok (.aload_n 0, 1) := by decide +kernel
theorem dL_law_1228 : decode k_L_law.2.1 1228 = .ok (.iload_n 3, 1) := by decide +kernel
theorem dL_law_1229 : decode k_L_law.2.1 1229 = .ok (.iconst 1, 1) := by decide +kernel
theorem dL_law_1230 : decode k_L_law.2.1 1230 = .ok (.iadd, 1) := by decide +kernel
theorem dL_law_1231 : decode k_L_law.2.1 1231 = .ok (.iaload, 1) := by decide +kernel
theorem dL_law_1232 : decode k_L_law.2.1 1232 = .ok (.invokevirtual 169, 3) := by decide +kernel
theorem dL_law_1235 : decode k_L_law.2.1 1235 = .ok (.aload_n 2, 1) := by decide +kernel
theorem dL_law_1236 : decode k_L_law.2.1 1236 = .ok (.aload_n 0, 1) := by decide +kernel
theorem dL_law_1237 : decode k_L_law.2.1 1237 = .ok (.iload_n 3, 1) := by decide +kernel
theorem dL_law_1238 : decode k_L_law.2.1 1238 = .ok (.iconst 1, 1) := by decide +kernel
theorem dL_law_1239 : decode k_L_law.2.1 1239 = .ok (.iadd, 1) := by decide +kernel
theorem dL_law_1240 : decode k_L_law.2.1 1240 = .ok (.iaload, 1) := by decide +kernel
theorem dL_law_1241 : decode k_L_law.2.1 1241 = .ok (.invokevirtual 172, 3) := by decide +kernel
theorem dL_law_1244 : decode k_L_law.2.1 1244 = .ok (.if_icmp .eq 51, 3) := by decide +kernel
theorem dL_law_1247 : decode k_L_law.2.1 1247 = .ok (.iconst 0, 1) := by decide +kernel
theorem dL_law_1248 : decode k_L_law.2.1 1248 = .ok (.ireturn, 1) := by decide +kernel
theorem dL_law_1249 : decode k_L_law.2.1 1249 = .ok (.aload_n 1, 1) := by decide +kernel
theorem dL_law_1250 : decode k_L_law.2.1 1250 = .ok (.aload_n 0, 1) := by decide +kernel
theorem dL_law_1251 : decode k_L_law.2.1 1251 = .ok (.iload_n 3, 1) := by decide +kernel
theorem dL_law_1252 : decode k_L_law.2.1 1252 = .ok (.iconst 1, 1) := by decide +kernel
theorem dL_law_1253 : decode k_L_law.2.1 1253 = .ok (.iadd, 1) := by decide +kernel
theorem dL_law_1254 : decode k_L_law.2.1 1254 = .ok (.iaload, 1) := by decide +kernel
theorem dL_law_1255 : decode k_L_law.2.1 1255 = .ok (.invokevirtual 173, 3) := by decide +kernel
theorem dL_law_1258 : decode k_L_law.2.1 1258 = .ok (.aload_n 2, 1) := by decide +kernel
theorem dL_law_1259 : decode k_L_law.2.1 1259 = .ok (.aload_n 0, 1) := by decide +kernel
theorem dL_law_1260 : decode k_L_law.2.1 1260 = .ok (.iload_n 3, 1) := by decide +kernel
theorem dL_law_1261 : decode k_L_law.2.1 1261 = .ok (.iconst 1, 1) := by decide +kernel
theorem dL_law_1262 : decode k_L_law.2.1 1262 = .ok (.iadd, 1) := by decide +kernel
theorem dL_law_1263 : decode k_L_law.2.1 1263 = .ok (.iaload, 1) := by decide +kernel
theorem dL_law_1264 : decode k_L_law.2.1 1264 = .ok (.invokevirtual 176, 3) := by decide +kernel
theorem dL_law_1267 : decode k_L_law.2.1 1267 = .ok (.if_icmp .eq 28, 3) := by decide +kernel
theorem dL_law_1270 : decode k_L_law.2.1 1270 = .ok (.iconst 0, 1) := by decide +kernel
theorem dL_law_1271 : decode k_L_law.2.1 1271 = .ok (.ireturn, 1) := by decide +kernel
theorem dL_law_1272 : decode k_L_law.2.1 1272 = .ok (.aload_n 1, 1) := by decide +kernel
theorem dL_law_1273 : decode k_L_law.2.1 1273 = .ok (.aload_n 0, 1) := by decide +kernel
theorem dL_law_1274 : decode k_L_law.2.1 1274 = .ok (.iload_n 3, 1) := by decide +kernel
theorem dL_law_1275 : decode k_L_law.2.1 1275 = .ok (.iconst 1, 1) := by decide +kernel
theorem dL_law_1276 : decode k_L_law.2.1 1276 = .ok (.iadd, 1) := by decide +kernel
theorem dL_law_1277 : decode k_L_law.2.1 1277 = .ok (.iaload, 1) := by decide +kernel
theorem dL_law_1278 : decode k_L_law.2.1 1278 = .ok (.invokevirtual 177, 3) := by decide +kernel
theorem dL_law_1281 : decode k_L_law.2.1 1281 = .ok (.aload_n 2, 1) := by decide +kernel
theorem dL_law_1282 : decode k_L_law.2.1 1282 = .ok (.aload_n 0, 1) := by decide +kernel
theorem dL_law_1283 : decode k_L_law.2.1 1283 = .ok (.iload_n 3, 1) := by decide +kernel
theorem dL_law_1284 : decode k_L_law.2.1 1284 = .ok (.iconst 1, 1) := by decide +kernel
theorem dL_law_1285 : decode k_L_law.2.1 1285 = .ok (.iadd, 1) := by decide +kernel
theorem dL_law_1286 : decode k_L_law.2.1 1286 = .ok (.iaload, 1) := by decide +kernel
theorem dL_law_1287 : decode k_L_law.2.1 1287 = .ok (.invokevirtual 180, 3) := by decide +kernel
theorem dL_law_1290 : decode k_L_law.2.1 1290 = .ok (.if_icmp .eq 5, 3) := by decide +kernel
theorem dL_law_1293 : decode k_L_law.2.1 1293 = .ok (.iconst 0, 1) := by decide +kernel
theorem dL_law_1294 : decode k_L_law.2.1 1294 = .ok (.ireturn, 1) := by decide +kernel
theorem dL_law_1295 : decode k_L_law.2.1 1295 = .ok (.iinc 3 6, 3) := by decide +kernel
theorem dL_law_1298 : decode k_L_law.2.1 1298 = .ok (.goto (-1280), 3) := by decide +kernel
theorem dL_law_1301 : decode k_L_law.2.1 1301 = .ok (.iconst 1, 1) := by decide +kernel
theorem dL_law_1302 : decode k_L_law.2.1 1302 = .ok (.ireturn, 1) := by decide +kernel
