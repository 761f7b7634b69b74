theorem dX10_insert_39 : decode cX10_insert 39 = .ok (.iload_n 3, 1) := by decide +kernel
theorem dX10_insert_40 : decode cX10_insert 40 = .ok (.sipush 240, 3) := by decide +kernel
theorem dX10_insert_43 : decode cX10_insert 43 = .ok (.if_icmp .ne 6, 3) := by decide +kernel
theorem dX10_insert_46 : decode cX10_insert 46 = .ok (.bipush (-4), 2) := by decide +kernel
theorem dX10_insert_48 : decode cX10_insert 48 = .ok (.ireturn, 1) := by decide +kernel
theorem dX10_insert_49 : decode cX10_insert 49 = .ok (.aload_n 0, 1) := by decide +kernel
theorem dX10_insert_50 : decode cX10_insert 50 = .ok (.invokevirtual 171, 3) := by decide +kernel
theorem dX10_insert_53 : decode cX10_insert 53 = .ok (.aload_n 0, 1) := by decide +kernel
theorem dX10_insert_54 : decode cX10_insert 54 = .ok (.iload_n 1, 1) := by decide +kernel
theorem dX10_insert_55 : decode cX10_insert 55 = .ok (.invokevirtual 273, 3) := by decide +kernel
theorem dX10_insert_58 : decode cX10_insert 58 = .ok (.istore 4, 2) := by decide +kernel
theorem dX10_insert_60 : decode cX10_insert 60 = .ok (.aload_n 0, 1) := by decide +kernel
theorem dX10_insert_61 : decode cX10_insert 61 = .ok (.invokevirtual 123, 3) := by decide +kernel
theorem dX10_insert_64 : decode cX10_insert 64 = .ok (.istore 5, 2) := by decide +kernel
theorem dX10_insert_66 : decode cX10_insert 66 = .ok (.iload 5, 2) := by decide +kernel
theorem dX10_insert_68 : decode cX10_insert 68 = .ok (.iload 4, 2) := by decide +kernel
theorem dX10_insert_70 : decode cX10_insert 70 = .ok (.if_icmp .le 29, 3) := by decide +kernel
theorem dX10_insert_73 : decode cX10_insert 73 = .ok (.aload_n 0, 1) := by decide +kernel
theorem dX10_insert_74 : decode cX10_insert 74 = .ok (.getfield 13, 3) := by decide +kernel
theorem dX10_insert_77 : decode cX10_insert 77 = .ok (.iconst 1, 1) := by decide +kernel
theorem dX10_insert_78 : decode cX10_insert 78 = .ok (.iload 5, 2) := by decide +kernel
theorem dX10_insert_80 : decode cX10_insert 80 = .ok (.iadd, 1) := by decide +kernel
theorem dX10_insert_81 : decode cX10_insert 81 = .ok (.aload_n 0, 1) := by decide +kernel
theorem dX10_insert_82 : decode cX10_insert 82 = .ok (.getfield 13, 3) := by decide +kernel
theorem dX10_insert_85 : decode cX10_insert 85 = .ok (.iconst 1, 1) := by decide +kernel
theorem dX10_insert_86 : decode cX10_insert 86 = .ok (.iload 5, 2) := by decide +kernel
theorem dX10_insert_88 : decode cX10_insert 88 = .ok (.iadd, 1) := by decide +kernel
theorem dX10_insert_89 : decode cX10_insert 89 = .ok (.iconst 1, 1) := by decide +kernel
theorem dX10_insert_90 : decode cX10_insert 90 = .ok (.isub, 1) := by decide +kernel
theorem dX10_insert_91 : decode cX10_insert 91 = .ok (.iaload, 1) := by decide +kernel
theorem dX10_insert_92 : decode cX10_insert 92 = .ok (.iastore, 1) := by decide +kernel
theorem dX10_insert_93 : decode cX10_insert 93 = .ok (.iinc 5 (-1), 3) := by decide +kernel
theorem dX10_insert_96 : decode cX10_insert 96 = .ok (.goto (-30), 3) := by decide +kernel
theorem dX10_insert_99 : decode cX10_insert 99 = .ok (.aload_n 0, 1) := by decide +kernel
theorem dX10_insert_100 : decode cX10_insert 100 = .ok (.getfield 13, 3) := by decide +kernel
theorem dX10_insert_103 : decode cX10_insert 103 = .ok (.iconst 1, 1) := by decide +kernel
theorem dX10_insert_104 : decode cX10_insert 104 = .ok (.iload 4, 2) := by decide +kernel
theorem dX10_insert_106 : decode cX10_insert 106 = .ok (.iadd, 1) := by decide +kernel
theorem dX10_insert_107 : decode cX10_insert 107 = .ok (.iload_n 2, 1) := by decide +kernel
theorem dX10_insert_108 : decode cX10_insert 108 = .ok (.iastore, 1) := by decide +kernel
theorem dX10_insert_109 : decode cX10_insert 109 = .ok (.aload_n 0, 1) := by decide +kernel
theorem dX10_insert_110 : decode cX10_insert 110 = .ok (.getfield 13, 3) := by decide +kernel
theorem dX10_insert_113 : decode cX10_insert 113 = .ok (.iconst 0, 1) := by decide +kernel
theorem dX10_insert_114 : decode cX10_insert 114 = .ok (.dup2, 1) := by decide +kernel
theorem dX10_insert_115 : decode cX10_insert 115 = .ok (.iaload, 1) := by decide +kernel
theorem dX10_insert_116 : decode cX10_insert 116 = .ok (.iconst 1, 1) := by decide +kernel
theorem dX10_insert_117 : decode cX10_insert 117 = .ok (.iadd, 1) := by decide +kernel
theorem dX10_insert_118 : decode cX10_insert 118 = .ok (.iastore, 1) := by decide +kernel
theorem dX10_insert_119 : decode cX10_insert 119 = .ok (.iload_n 3, 1) := by decide +kernel
theorem dX10_insert_120 : decode cX10_insert 120 = .ok (.iconst 1, 1) := by decide +kernel
theorem dX10_insert_121 : decode cX10_insert 121 = .ok (.iadd, 1) := by decide +kernel
theorem dX10_insert_122 : decode cX10_insert 122 = .ok (.ireturn, 1) := by decide +kernel
theorem dX10_sign_0 : decode cX10_sign 0 = .ok (.aload_n 0, 1) := by decide +kernel
theorem dX10_sign_1 : decode cX10_sign 1 = .ok (.iconst 0, 1) := by decide +kernel
theorem dX10_sign_2 : decode cX10_sign 2 = .ok (.putfield 1, 3) := by decide +kernel
theorem dX10_sign_5 : decode cX10_sign 5 = .ok (.iload_n 1, 1) := by decide +kernel
theorem dX10_sign_6 : decode cX10_sign 6 = .ok (.ifCond .ge 6, 3) := by decide +kernel
theorem dX10_sign_9 : decode cX10_sign 9 = .ok (.bipush (-3), 2) := by decide +kernel
theorem dX10_sign_11 : decode cX10_sign 11 = .ok (.ireturn, 1) := by decide +kernel
theorem dX10_sign_12 : decode cX10_sign 12 = .ok (.iload_n 1, 1) := by decide +kernel
theorem dX10_sign_13 : decode cX10_sign 13 = .ok (.aload_n 0, 1) := by decide +kernel
theorem dX10_sign_14 : decode cX10_sign 14 = .ok (.invokevirtual 123, 3) := by decide +kernel
theorem dX10_sign_17 : decode cX10_sign 17 = .ok (.if_icmp .ge 11, 3) := by decide +kernel
theorem dX10_sign_20 : decode cX10_sign 20 = .ok (.aload_n 0, 1) := by decide +kernel
theorem dX10_sign_21 : decode cX10_sign 21 = .ok (.iload_n 1, 1) := by decide +kernel
theorem dX10_sign_22 : decode cX10_sign 22 = .ok (.invokevirtual 127, 3) := by decide +kernel
theorem dX10_sign_25 : decode cX10_sign 25 = .ok (.goto 4, 3) := by decide +kernel
theorem dX10_sign_28 : decode cX10_sign 28 = .ok (.iconst (-1), 1) := by decide +kernel
theorem dX10_sign_29 : decode cX10_sign 29 = .ok (.ireturn, 1) := by decide +kernel
theorem dX10_rule_0 : decode cX10_rule 0 = .ok (.aload_n 0, 1) := by decide +kernel
theorem dX10_rule_1 : decode cX10_rule 1 = .ok (.iconst 0, 1) := by decide +kernel
theorem dX10_rule_2 : decode cX10_rule 2 = .ok (.putfield 1, 3) := by decide +kernel
theorem dX10_rule_5 : decode cX10_rule 5 = .ok (.aload_n 0, 1) := by decide +kernel
theorem dX10_rule_6 : decode cX10_rule 6 = .ok (.iload_n 1, 1) := by decide +kernel
theorem dX10_rule_7 : decode cX10_rule 7 = .ok (.invokevirtual 210, 3) := by decide +kernel
theorem dX10_rule_10 : decode cX10_rule 10 = .ok (.ifCond .ne 6, 3) := by decide +kernel
theorem dX10_rule_13 : decode cX10_rule 13 = .ok (.bipush (-2), 2) := by decide +kernel
theorem dX10_rule_15 : decode cX10_rule 15 = .ok (.ireturn, 1) := by decide +kernel
theorem dX10_rule_16 : decode cX10_rule 16 = .ok (.iload_n 2, 1) := by decide +kernel
theorem dX10_rule_17 : decode cX10_rule 17 = .ok (.i2l, 1) := by decide +kernel
theorem dX10_rule_18 : decode cX10_rule 18 = .ok (.ldc2_w 276, 3) := by decide +kernel
theorem dX10_rule_21 : decode cX10_rule 21 = .ok (.ldc2_w 278, 3) := by decide +kernel
theorem dX10_rule_24 : decode cX10_rule 24 = .ok (.invokestatic 98, 3) := by decide +kernel
theorem dX10_rule_27 : decode cX10_rule 27 = .ok (.ifCond .eq 29, 3) := by decide +kernel
theorem dX10_rule_30 : decode cX10_rule 30 = .ok (.iload_n 2, 1) := by decide +kernel
theorem dX10_rule_31 : decode cX10_rule 31 = .ok (.bipush 10, 2) := by decide +kernel
theorem dX10_rule_33 : decode cX10_rule 33 = .ok (.isub, 1) := by decide +kernel
theorem dX10_rule_34 : decode cX10_rule 34 = .ok (.aload_n 0, 1) := by decide +kernel
theorem dX10_rule_35 : decode cX10_rule 35 = .ok (.iload_n 1, 1) := by decide +kernel
theorem dX10_rule_36 : decode cX10_rule 36 = .ok (.invokevirtual 106, 3) := by decide +kernel
theorem dX10_rule_39 : decode cX10_rule 39 = .ok (.if_icmp .ge 15, 3) := by decide +kernel
theorem dX10_rule_42 : decode cX10_rule 42 = .ok (.aload_n 0, 1) := by decide +kernel
theorem dX10_rule_43 : decode cX10_rule 43 = .ok (.iload_n 1, 1) := by decide +kernel
theorem dX10_rule_44 : decode cX10_rule 44 = .ok (.iload_n 2, 1) := by decide +kernel
theorem dX10_rule_45 : decode cX10_rule 45 = .ok (.bipush 10, 2) := by decide +kernel
theorem dX10_rule_47 : decode cX10_rule 47 = .ok (.isub, 1) := by decide +kernel
theorem dX10_rule_48 : decode cX10_rule 48 = .ok (.invokevirtual 113, 3) := by decide +kernel
theorem dX10_rule_51 : decode cX10_rule 51 = .ok (.goto 4, 3) := by decide +kernel
theorem dX10_rule_54 : decode cX10_rule 54 = .ok (.iconst (-1), 1) := by decide +kernel
theorem dX10_rule_55 : decode cX10_rule 55 = .ok (.ireturn, 1) := by decide +kernel
theorem dX10_rule_56 : decode cX10_rule 56 = .ok (.aload_n 0, 1) := by decide +kernel
theorem dX10_rule_57 : decode cX10_rule 57 = .ok (.invokevirtual 134, 3) := by decide +kernel
theorem dX10_rule_60 : decode cX10_rule 60 = .ok (.iload_n 2, 1) := by decide +kernel
theorem dX10_rule_61 : decode cX10_rule 61 = .ok (.tableswitch 87 0 5 #[39, 45, 52, 59, 65, 71], 39) := by decide +kernel
theorem dX10_rule_100 : decode cX10_rule 100 = .ok (.aload_n 0, 1) := by decide +kernel
theorem dX10_rule_101 : decode cX10_rule 101 = .ok (.iload_n 1, 1) := by decide +kernel
theorem dX10_rule_102 : decode cX10_rule 102 = .ok (.invokevirtual 106, 3) := by decide +kernel
theorem dX10_rule_105 : decode cX10_rule 105 = .ok (.ireturn, 1) := by decide +kernel
theorem dX10_rule_106 : decode cX10_rule 106 = .ok (.aload_n 0, 1) := by decide +kernel
theorem dX10_rule_107 : decode cX10_rule 107 = .ok (.getfield 30, 3) := by decide +kernel
theorem dX10_rule_110 : decode cX10_rule 110 = .ok (.iload_n 1, 1) := by decide +kernel
theorem dX10_rule_111 : decode cX10_rule 111 = .ok (.iaload, 1) := by decide +kernel
theorem dX10_rule_112 : decode cX10_rule 112 = .ok (.ireturn, 1) := by decide +kernel
theorem dX10_rule_113 : decode cX10_rule 113 = .ok (.aload_n 0, 1) := by decide +kernel
theorem dX10_rule_114 : decode cX10_rule 114 = .ok (.getfield 33, 3) := by decide +kernel
theorem dX10_rule_117 : decode cX10_rule 117 = .ok (.iload_n 1, 1) := by decide +kernel
theorem dX10_rule_118 : decode cX10_rule 118 = .ok (.iaload, 1) := by decide +kernel
theorem dX10_rule_119 : decode cX10_rule 119 = .ok (.ireturn, 1) := by decide +kernel
theorem dX10_rule_120 : decode cX10_rule 120 = .ok (.aload_n 0, 1) := by decide +kernel
theorem dX10_rule_121 : decode cX10_rule 121 = .ok (.iload_n 1, 1) := by decide +kernel
theorem dX10_rule_122 : decode cX10_rule 122 = .ok (.invokevirtual 267, 3) := by decide +kernel
theorem dX10_rule_125 : decode cX10_rule 125 = .ok (.ireturn, 1) := by decide +kernel
theorem dX10_rule_126 : decode cX10_rule 126 = .ok (.aload_n 0, 1) := by decide +kernel
theorem dX10_rule_127 : decode cX10_rule 127 = .ok (.iload_n 1, 1) := by decide +kernel
theorem dX10_rule_128 : decode cX10_rule 128 = .ok (.invokevirtual 192, 3) := by decide +kernel
theorem dX10_rule_131 : decode cX10_rule 131 = .ok (.ireturn, 1) := by decide +kernel
theorem dX10_rule_132 : decode cX10_rule 132 = .ok (.aload_n 0, 1) := by decide +kernel
theorem dX10_rule_133 : decode cX10_rule 133 = .ok (.iconst 0, 1) := by decide +kernel
theorem dX10_rule_134 : decode cX10_rule 134 = .ok (.putfield 120, 3) := by decide +kernel
theorem dX10_rule_137 : decode cX10_rule 137 = .ok (.aload_n 0, 1) := by decide +kernel
theorem dX10_rule_138 : decode cX10_rule 138 = .ok (.iload_n 1, 1) := by decide +kernel
theorem dX10_rule_139 : decode cX10_rule 139 = .ok (.iconst 0, 1) := by decide +kernel
theorem dX10_rule_140 : decode cX10_rule 140 = .ok (.invokevirtual 130, 3) := by decide +kernel
theorem dX10_rule_143 : decode cX10_rule 143 = .ok (.aload_n 0, 1) := by decide +kernel
theorem dX10_rule_144 : decode cX10_rule 144 = .ok (.invokevirtual 227, 3) := by decide +kernel
theorem dX10_rule_147 : decode cX10_rule 147 = .ok (.ireturn, 1) := by decide +kernel
theorem dX10_rule_148 : decode cX10_rule 148 = .ok (.bipush (-2), 2) := by decide +kernel
theorem dX10_rule_150 : decode cX10_rule 150 = .ok (.ireturn, 1) := by decide +kernel
theorem dX10_word_0 : decode cX10_word 0 = .ok (.aload_n 0, 1) := by decide +kernel
theorem dX10_word_1 : decode cX10_word 1 = .ok (.iconst 0, 1) := by decide +kernel
theorem dX10_word_2 : decode cX10_word 2 = .ok (.putfield 1, 3) := by decide +kernel
theorem dX10_word_5 : decode cX10_word 5 = .ok (.aload_n 0, 1) := by decide +kernel
theorem dX10_word_6 : decode cX10_word 6 = .ok (.iload_n 1, 1) := by decide +kernel
theorem dX10_word_7 : decode cX10_word 7 = .ok (.invokevirtual 210, 3) := by decide +kernel
theorem dX10_word_10 : decode cX10_word 10 = .ok (.ifCond .ne 6, 3) := by decide +kernel
theorem dX10_word_13 : decode cX10_word 13 = .ok (.bipush (-2), 2) := by decide +kernel
theorem dX10_word_15 : decode cX10_word 15 = .ok (.ireturn, 1) := by decide +kernel
theorem dX10_word_16 : decode cX10_word 16 = .ok (.iload_n 2, 1) := by decide +kernel
theorem dX10_word_17 : decode cX10_word 17 = .ok (.ifCond .ge 6, 3) := by decide +kernel
theorem dX10_word_20 : decode cX10_word 20 = .ok (.bipush (-3), 2) := by decide +kernel
theorem dX10_word_22 : decode cX10_word 22 = .ok (.ireturn, 1) := by decide +kernel
theorem dX10_word_23 : decode cX10_word 23 = .ok (.aload_n 0, 1) := by decide +kernel
theorem dX10_word_24 : decode cX10_word 24 = .ok (.iconst 0, 1) := by decide +kernel
theorem dX10_word_25 : decode cX10_word 25 = .ok (.putfield 120, 3) := by decide +kernel
theorem dX10_word_28 : decode cX10_word 28 = .ok (.aload_n 0, 1) := by decide +kernel
theorem dX10_word_29 : decode cX10_word 29 = .ok (.iload_n 1, 1) := by decide +kernel
theorem dX10_word_30 : decode cX10_word 30 = .ok (.iconst 0, 1) := by decide +kernel
theorem dX10_word_31 : decode cX10_word 31 = .ok (.invokevirtual 130, 3) := by decide +kernel
theorem dX10_word_34 : decode cX10_word 34 = .ok (.iload_n 2, 1) := by decide +kernel
theorem dX10_word_35 : decode cX10_word 35 = .ok (.aload_n 0, 1) := by decide +kernel
theorem dX10_word_36 : decode cX10_word 36 = .ok (.getfield 120, 3) := by decide +kernel
theorem dX10_word_39 : decode cX10_word 39 = .ok (.if_icmp .ge 12, 3) := by decide +kernel
theorem dX10_word_42 : decode cX10_word 42 = .ok (.aload_n 0, 1) := by decide +kernel
theorem dX10_word_43 : decode cX10_word 43 = .ok (.getfield 36, 3) := by decide +kernel
theorem dX10_word_46 : decode cX10_word 46 = .ok (.iload_n 2, 1) := by decide +kernel
theorem dX10_word_47 : decode cX10_word 47 = .ok (.iaload, 1) := by decide +kernel
theorem dX10_word_48 : decode cX10_word 48 = .ok (.goto 4, 3) := by decide +kernel
theorem dX10_word_51 : decode cX10_word 51 = .ok (.iconst (-1), 1) := by decide +kernel
theorem dX10_word_52 : decode cX10_word 52 = .ok (.ireturn, 1) := by decide +kernel
theorem dX10_pairs_0 : decode cX10_pairs 0 = .ok (.aload_n 0, 1) := by decide +kernel
theorem dX10_pairs_1 : decode cX10_pairs 1 = .ok (.iconst 0, 1) := by decide +kernel
theorem dX10_pairs_2 : decode cX10_pairs 2 = .ok (.putfield 1, 3) := by decide +kernel
theorem dX10_pairs_5 : decode cX10_pairs 5 = .ok (.aload_n 0, 1) := by decide +kernel
theorem dX10_pairs_6 : decode cX10_pairs 6 = .ok (.iload_n 1, 1) := by decide +kernel
theorem dX10_pairs_7 : decode cX10_pairs 7 = .ok (.invokevirtual 210, 3) := by decide +kernel
theorem dX10_pairs_10 : decode cX10_pairs 10 = .ok (.ifCond .eq 20, 3) := by decide +kernel
theorem dX10_pairs_13 : decode cX10_pairs 13 = .ok (.aload_n 0, 1) := by decide +kernel
theorem dX10_pairs_14 : decode cX10_pairs 14 = .ok (.iload_n 2, 1) := by decide +kernel
theorem dX10_pairs_15 : decode cX10_pairs 15 = .ok (.invokevirtual 210, 3) := by decide +kernel
theorem dX10_pairs_18 : decode cX10_pairs 18 = .ok (.ifCond .eq 12, 3) := by decide +kernel
theorem dX10_pairs_21 : decode cX10_pairs 21 = .ok (.aload_n 0, 1) := by decide +kernel
theorem dX10_pairs_22 : decode cX10_pairs 22 = .ok (.iload_n 1, 1) := by decide +kernel
theorem dX10_pairs_23 : decode cX10_pairs 23 = .ok (.iload_n 2, 1) := by decide +kernel
theorem dX10_pairs_24 : decode cX10_pairs 24 = .ok (.invokevirtual 249, 3) := by decide +kernel
theorem dX10_pairs_27 : decode cX10_pairs 27 = .ok (.goto 5, 3) := by decide +kernel
theorem dX10_pairs_30 : decode cX10_pairs 30 = .ok (.bipush (-2), 2) := by decide +kernel
theorem dX10_pairs_32 : decode cX10_pairs 32 = .ok (.ireturn, 1) := by decide +kernel
theorem dX10_pick_0 : decode cX10_pick 0 = .ok (.aload_n 0, 1) := by decide +kernel
theorem dX10_pick_1 : decode cX10_pick 1 = .ok (.iconst 0, 1) := by decide +kernel
theorem dX10_pick_2 : decode cX10_pick 2 = .ok (.putfield 1, 3) := by decide +kernel
theorem dX10_pick_5 : decode cX10_pick 5 = .ok (.iload_n 1, 1) := by decide +kernel
theorem dX10_pick_6 : decode cX10_pick 6 = .ok (.ifCond .ge 6, 3) := by decide +kernel
theorem dX10_pick_9 : decode cX10_pick 9 = .ok (.bipush (-3), 2) := by decide +kernel
theorem dX10_pick_11 : decode cX10_pick 11 = .ok (.ireturn, 1) := by decide +kernel
theorem dX10_pick_12 : decode cX10_pick 12 = .ok (.aload_n 0, 1) := by decide +kernel
theorem dX10_pick_13 : decode cX10_pick 13 = .ok (.invokevirtual 236, 3) := by decide +kernel
theorem dX10_pick_16 : decode cX10_pick 16 = .ok (.istore_n 2, 1) := by decide +kernel
theorem dX10_pick_17 : decode cX10_pick 17 = .ok (.iconst 0, 1) := by decide +kernel
theorem dX10_pick_18 : decode cX10_pick 18 = .ok (.istore_n 3, 1) := by decide +kernel
theorem dX10_pick_19 : decode cX10_pick 19 = .ok (.sipush 240, 3) := by decide +kernel
theorem dX10_pick_22 : decode cX10_pick 22 = .ok (.istore 4, 2) := by decide +kernel
theorem dX10_pick_24 : decode cX10_pick 24 = .ok (.iload 4, 2) := by decide +kernel
theorem dX10_pick_26 : decode cX10_pick 26 = .ok (.iconst 1, 1) := by decide +kernel
theorem dX10_pick_27 : decode cX10_pick 27 = .ok (.if_icmp .le 64, 3) := by decide +kernel
theorem dX10_pick_30 : decode cX10_pick 30 = .ok (.iconst 0, 1) := by decide +kernel
theorem dX10_pick_31 : decode cX10_pick 31 = .ok (.istore 5, 2) := by decide +kernel
theorem dX10_pick_33 : decode cX10_pick 33 = .ok (.iload 5, 2) := by decide +kernel
theorem dX10_pick_35 : decode cX10_pick 35 = .ok (.sipush 7396, 3) := by decide +kernel
theorem dX10_pick_38 : decode cX10_pick 38 = .ok (.if_icmp .ge 47, 3) := by decide +kernel
theorem dX10_pick_41 : decode cX10_pick 41 = .ok (.aload_n 0, 1) := by decide +kernel
theorem dX10_pick_42 : decode cX10_pick 42 = .ok (.getfield 76, 3) := by decide +kernel
theorem dX10_pick_45 : decode cX10_pick 45 = .ok (.iload 5, 2) := by decide +kernel
theorem dX10_pick_47 : decode cX10_pick 47 = .ok (.iaload, 1) := by decide +kernel
theorem dX10_pick_48 : decode cX10_pick 48 = .ok (.iload 4, 2) := by decide +kernel
theorem dX10_pick_50 : decode cX10_pick 50 = .ok (.if_icmp .eq 6, 3) := by decide +kernel
theorem dX10_pick_53 : decode cX10_pick 53 = .ok (.goto 26, 3) := by decide +kernel
theorem dX10_pick_56 : decode cX10_pick 56 = .ok (.iload_n 3, 1) := by decide +kernel
theorem dX10_pick_57 : decode cX10_pick 57 = .ok (.iload_n 1, 1) := by decide +kernel
theorem dX10_pick_58 : decode cX10_pick 58 = .ok (.if_icmp .ne 18, 3) := by decide +kernel
theorem dX10_pick_61 : decode cX10_pick 61 = .ok (.bipush 100, 2) := by decide +kernel
theorem dX10_pick_63 : decode cX10_pick 63 = .ok (.iload 5, 2) := by decide +kernel
theorem dX10_pick_65 : decode cX10_pick 65 = .ok (.bipush 86, 2) := by decide +kernel
theorem dX10_pick_67 : decode cX10_pick 67 = .ok (.idiv, 1) := by decide +kernel
theorem dX10_pick_68 : decode cX10_pick 68 = .ok (.imul, 1) := by decide +kernel
theorem dX10_pick_69 : decode cX10_pick 69 = .ok (.iload 5, 2) := by decide +kernel
theorem dX10_pick_71 : decode cX10_pick 71 = .ok (.bipush 86, 2) := by decide +kernel
theorem dX10_pick_73 : decode cX10_pick 73 = .ok (.irem, 1) := by decide +kernel
theorem dX10_pick_74 : decode cX10_pick 74 = .ok (.iadd, 1) := by decide +kernel
theorem dX10_pick_75 : decode cX10_pick 75 = .ok (.ireturn, 1) := by decide +kernel
theorem dX10_pick_76 : decode cX10_pick 76 = .ok (.iinc 3 1, 3) := by decide +kernel
theorem dX10_pick_79 : decode cX10_pick 79 = .ok (.iinc 5 1, 3) := by decide +kernel
theorem dX10_pick_82 : decode cX10_pick 82 = .ok (.goto (-49), 3) := by decide +kernel
theorem dX10_pick_85 : decode cX10_pick 85 = .ok (.iinc 4 (-1), 3) := by decide +kernel
theorem dX10_pick_88 : decode cX10_pick 88 = .ok (.goto (-64), 3) := by decide +kernel
theorem dX10_pick_91 : decode cX10_pick 91 = .ok (.iconst (-1), 1) := by decide +kernel
theorem dX10_pick_92 : decode cX10_pick 92 = .ok (.ireturn, 1) := by decide +kernel
theorem dX10_at_0 : decode cX10_at 0 = .ok (.aload_n 0, 1) := by decide +kernel
theorem dX10_at_1 : decode cX10_at 1 = .ok (.iconst 0, 1) := by decide +kernel
theorem dX10_at_2 : decode cX10_at 2 = .ok (.putfield 1, 3) := by decide +kernel
theorem dX10_at_5 : decode cX10_at 5 = .ok (.iload_n 1, 1) := by decide +kernel
theorem dX10_at_6 : decode cX10_at 6 = .ok (.ifCond .ge 6, 3) := by decide +kernel
theorem dX10_at_9 : decode cX10_at 9 = .ok (.bipush (-3), 2) := by decide +kernel
theorem dX10_at_11 : decode cX10_at 11 = .ok (.ireturn, 1) := by decide +kernel
theorem dX10_at_12 : decode cX10_at 12 = .ok (.aload_n 0, 1) := by decide +kernel
theorem dX10_at_13 : decode cX10_at 13 = .ok (.invokevirtual 224, 3) := by decide +kernel
theorem dX10_at_16 : decode cX10_at 16 = .ok (.iload_n 1, 1) := by decide +kernel
theorem dX10_at_17 : decode cX10_at 17 = .ok (.aload_n 0, 1) := by decide +kernel
theorem dX10_at_18 : decode cX10_at 18 = .ok (.getfield 120, 3) := by decide +kernel
theorem dX10_at_21 : decode cX10_at 21 = .ok (.if_icmp .ge 12, 3) := by decide +kernel
theorem dX10_at_24 : decode cX10_at 24 = .ok (.aload_n 0, 1) := by decide +kernel
theorem dX10_at_25 : decode cX10_at 25 = .ok (.getfield 36, 3) := by decide +kernel
theorem dX10_at_28 : decode cX10_at 28 = .ok (.iload_n 1, 1) := by decide +kernel
theorem dX10_at_29 : decode cX10_at 29 = .ok (.iaload, 1) := by decide +kernel
theorem dX10_at_30 : decode cX10_at 30 = .ok (.goto 4, 3) := by decide +kernel
theorem dX10_at_33 : decode cX10_at 33 = .ok (.iconst (-1), 1) := by decide +kernel
theorem dX10_at_34 : decode cX10_at 34 = .ok (.ireturn, 1) := by decide +kernel
theorem dX10_seeks_0 : decode cX10_seeks 0 = .ok (.aload_n 0, 1) := by decide +kernel
theorem dX10_seeks_1 : decode cX10_seeks 1 = .ok (.invokevirtual 134, 3) := by decide +kernel
theorem dX10_seeks_4 : decode cX10_seeks 4 = .ok (.aload_n 0, 1) := by decide +kernel
theorem dX10_seeks_5 : decode cX10_seeks 5 = .ok (.iconst 0, 1) := by decide +kernel
theorem dX10_seeks_6 : decode cX10_seeks 6 = .ok (.putfield 280, 3) := by decide +kernel
theorem dX10_seeks_9 : decode cX10_seeks 9 = .ok (.aload_n 0, 1) := by decide +kernel
theorem dX10_seeks_10 : decode cX10_seeks 10 = .ok (.iconst 0, 1) := by decide +kernel
theorem dX10_seeks_11 : decode cX10_seeks 11 = .ok (.putfield 283, 3) := by decide +kernel
theorem dX10_seeks_14 : decode cX10_seeks 14 = .ok (.aload_n 0, 1) := by decide +kernel
theorem dX10_seeks_15 : decode cX10_seeks 15 = .ok (.getfield 280, 3) := by decide +kernel
theorem dX10_seeks_18 : decode cX10_seeks 18 = .ok (.aload_n 0, 1) := by decide +kernel
theorem dX10_seeks_19 : decode cX10_seeks 19 = .ok (.invokevirtual 123, 3) := by decide +kernel
theorem dX10_seeks_22 : decode cX10_seeks 22 = .ok (.if_icmp .ge 60, 3) := by decide +kernel
theorem dX10_seeks_25 : decode cX10_seeks 25 = .ok (.aload_n 0, 1) := by decide +kernel
theorem dX10_seeks_26 : decode cX10_seeks 26 = .ok (.getfield 283, 3) := by decide +kernel
theorem dX10_seeks_29 : decode cX10_seeks 29 = .ok (.aload_n 0, 1) := by decide +kernel
theorem dX10_seeks_30 : decode cX10_seeks 30 = .ok (.getfield 30, 3) := by decide +kernel
theorem dX10_seeks_33 : decode cX10_seeks 33 = .ok (.aload_n 0, 1) := by decide +kernel
theorem dX10_seeks_34 : decode cX10_seeks 34 = .ok (.aload_n 0, 1) := by decide +kernel
theorem dX10_seeks_35 : decode cX10_seeks 35 = .ok (.getfield 280, 3) := by decide +kernel
theorem dX10_seeks_38 : decode cX10_seeks 38 = .ok (.invokevirtual 127, 3) := by decide +kernel
theorem dX10_seeks_41 : decode cX10_seeks 41 = .ok (.iaload, 1) := by decide +kernel
theorem dX10_seeks_42 : decode cX10_seeks 42 = .ok (.iadd, 1) := by decide +kernel
theorem dX10_seeks_43 : decode cX10_seeks 43 = .ok (.iload_n 1, 1) := by decide +kernel
theorem dX10_seeks_44 : decode cX10_seeks 44 = .ok (.if_icmp .gt 38, 3) := by decide +kernel
theorem dX10_seeks_47 : decode cX10_seeks 47 = .ok (.aload_n 0, 1) := by decide +kernel
theorem dX10_seeks_48 : decode cX10_seeks 48 = .ok (.dup, 1) := by decide +kernel
theorem dX10_seeks_49 : decode cX10_seeks 49 = .ok (.getfield 283, 3) := by decide +kernel
theorem dX10_seeks_52 : decode cX10_seeks 52 = .ok (.aload_n 0, 1) := by decide +kernel
theorem dX10_seeks_53 : decode cX10_seeks 53 = .ok (.getfield 30, 3) := by decide +kernel
theorem dX10_seeks_56 : decode cX10_seeks 56 = .ok (.aload_n 0, 1) := by decide +kernel
theorem dX10_seeks_57 : decode cX10_seeks 57 = .ok (.aload_n 0, 1) := by decide +kernel
theorem dX10_seeks_58 : decode cX10_seeks 58 = .ok (.getfield 280, 3) := by decide +kernel
theorem dX10_seeks_61 : decode cX10_seeks 61 = .ok (.invokevirtual 127, 3) := by decide +kernel
theorem dX10_seeks_64 : decode cX10_seeks 64 = .ok (.iaload, 1) := by decide +kernel
theorem dX10_seeks_65 : decode cX10_seeks 65 = .ok (.iadd, 1) := by decide +kernel
theorem dX10_seeks_66 : decode cX10_seeks 66 = .ok (.putfield 283, 3) := by decide +kernel
theorem dX10_seeks_69 : decode cX10_seeks 69 = .ok (.aload_n 0, 1) := by decide +kernel
theorem dX10_seeks_70 : decode cX10_seeks 70 = .ok (.dup, 1) := by decide +kernel
theorem dX10_seeks_71 : decode cX10_seeks 71 = .ok (.getfield 280, 3) := by decide +kernel
theorem dX10_seeks_74 : decode cX10_seeks 74 = .ok (.iconst 1, 1) := by decide +kernel
theorem dX10_seeks_75 : decode cX10_seeks 75 = .ok (.iadd, 1) := by decide +kernel
theorem dX10_seeks_76 : decode cX10_seeks 76 = .ok (.putfield 280, 3) := by decide +kernel
theorem dX10_seeks_79 : decode cX10_seeks 79 = .ok (.goto (-65), 3) := by decide +kernel
theorem dX10_seeks_82 : decode cX10_seeks 82 = .ok (.aload_n 0, 1) := by decide +kernel
theorem dX10_seeks_83 : decode cX10_seeks 83 = .ok (.getfield 280, 3) := by decide +kernel
theorem dX10_seeks_86 : decode cX10_seeks 86 = .ok (.aload_n 0, 1) := by decide +kernel
theorem dX10_seeks_87 : decode cX10_seeks 87 = .ok (.invokevirtual 123, 3) := by decide +kernel
theorem dX10_seeks_90 : decode cX10_seeks 90 = .ok (.if_icmp .ge 7, 3) := by decide +kernel
theorem dX10_seeks_93 : decode cX10_seeks 93 = .ok (.iconst 1, 1) := by decide +kernel
theorem dX10_seeks_94 : decode cX10_seeks 94 = .ok (.goto 4, 3) := by decide +kernel
theorem dX10_seeks_97 : decode cX10_seeks 97 = .ok (.iconst 0, 1) := by decide +kernel
theorem dX10_seeks_98 : decode cX10_seeks 98 = .ok (.ireturn, 1) := by decide +kernel
theorem dX10_within_0 : decode cX10_within 0 = .ok (.aload_n 0, 1) := by decide +kernel
theorem dX10_within_1 : decode cX10_within 1 = .ok (.iconst 0, 1) := by decide +kernel
theorem dX10_within_2 : decode cX10_within 2 = .ok (.putfield 1, 3) := by decide +kernel
theorem dX10_within_5 : decode cX10_within 5 = .ok (.iload_n 2, 1) := by decide +kernel
theorem dX10_within_6 : decode cX10_within 6 = .ok (.i2l, 1) := by decide +kernel
theorem dX10_within_7 : decode cX10_within 7 = .ok (.lconst 0, 1) := by decide +kernel
theorem dX10_within_8 : decode cX10_within 8 = .ok (.ldc2_w 286, 3) := by decide +kernel
theorem dX10_within_11 : decode cX10_within 11 = .ok (.invokestatic 98, 3) := by decide +kernel
theorem dX10_within_14 : decode cX10_within 14 = .ok (.ifCond .ne 6, 3) := by decide +kernel
theorem dX10_within_17 : decode cX10_within 17 = .ok (.bipush (-2), 2) := by decide +kernel
theorem dX10_within_19 : decode cX10_within 19 = .ok (.ireturn, 1) := by decide +kernel
theorem dX10_within_20 : decode cX10_within 20 = .ok (.iload_n 1, 1) := by decide +kernel
theorem dX10_within_21 : decode cX10_within 21 = .ok (.ifCond .ge 6, 3) := by decide +kernel
theorem dX10_within_24 : decode cX10_within 24 = .ok (.bipush (-3), 2) := by decide +kernel
theorem dX10_within_26 : decode cX10_within 26 = .ok (.ireturn, 1) := by decide +kernel
theorem dX10_within_27 : decode cX10_within 27 = .ok (.aload_n 0, 1) := by decide +kernel
theorem dX10_within_28 : decode cX10_within 28 = .ok (.iload_n 1, 1) := by decide +kernel
theorem dX10_within_29 : decode cX10_within 29 = .ok (.invokevirtual 288, 3) := by decide +kernel
theorem dX10_within_32 : decode cX10_within 32 = .ok (.ifCond .ne 5, 3) := by decide +kernel
theorem dX10_within_35 : decode cX10_within 35 = .ok (.iconst (-1), 1) := by decide +kernel
theorem dX10_within_36 : decode cX10_within 36 = .ok (.ireturn, 1) := by decide +kernel
theorem dX10_within_37 : decode cX10_within 37 = .ok (.aload_n 0, 1) := by decide +kernel
theorem dX10_within_38 : decode cX10_within 38 = .ok (.invokevirtual 224, 3) := by decide +kernel
theorem dX10_within_41 : decode cX10_within 41 = .ok (.iload_n 2, 1) := by decide +kernel
theorem dX10_within_42 : decode cX10_within 42 = .ok (.ifCond .ne 10, 3) := by decide +kernel
theorem dX10_within_45 : decode cX10_within 45 = .ok (.aload_n 0, 1) := by decide +kernel
theorem dX10_within_46 : decode cX10_within 46 = .ok (.getfield 280, 3) := by decide +kernel
theorem dX10_within_49 : decode cX10_within 49 = .ok (.goto 21, 3) := by decide +kernel
theorem dX10_within_52 : decode cX10_within 52 = .ok (.iload_n 2, 1) := by decide +kernel
theorem dX10_within_53 : decode cX10_within 53 = .ok (.iconst 1, 1) := by decide +kernel
theorem dX10_within_54 : decode cX10_within 54 = .ok (.if_icmp .ne 10, 3) := by decide +kernel
theorem dX10_within_57 : decode cX10_within 57 = .ok (.aload_n 0, 1) := by decide +kernel
theorem dX10_within_58 : decode cX10_within 58 = .ok (.getfield 283, 3) := by decide +kernel
theorem dX10_within_61 : decode cX10_within 61 = .ok (.goto 9, 3) := by decide +kernel
theorem dX10_within_64 : decode cX10_within 64 = .ok (.aload_n 0, 1) := by decide +kernel
theorem dX10_within_65 : decode cX10_within 65 = .ok (.getfield 39, 3) := by decide +kernel
theorem dX10_within_68 : decode cX10_within 68 = .ok (.iload_n 1, 1) := by decide +kernel
theorem dX10_within_69 : decode cX10_within 69 = .ok (.iaload, 1) := by decide +kernel
theorem dX10_within_70 : decode cX10_within 70 = .ok (.ireturn, 1) := by decide +kernel
theorem dX10_way_0 : decode cX10_way 0 = .ok (.aload_n 0, 1) := by decide +kernel
theorem dX10_way_1 : decode cX10_way 1 = .ok (.iconst 0, 1) := by decide +kernel
theorem dX10_way_2 : decode cX10_way 2 = .ok (.putfield 1, 3) := by decide +kernel
theorem dX10_way_5 : decode cX10_way 5 = .ok (.iload_n 1, 1) := by decide +kernel
theorem dX10_way_6 : decode cX10_way 6 = .ok (.ifCond .lt 7, 3) := by decide +kernel
theorem dX10_way_9 : decode cX10_way 9 = .ok (.iload_n 2, 1) := by decide +kernel
theorem dX10_way_10 : decode cX10_way 10 = .ok (.ifCond .ge 6, 3) := by decide +kernel
theorem dX10_way_13 : decode cX10_way 13 = .ok (.bipush (-3), 2) := by decide +kernel
theorem dX10_way_15 : decode cX10_way 15 = .ok (.ireturn, 1) := by decide +kernel
theorem dX10_way_16 : decode cX10_way 16 = .ok (.aload_n 0, 1) := by decide +kernel
theorem dX10_way_17 : decode cX10_way 17 = .ok (.iload_n 1, 1) := by decide +kernel
theorem dX10_way_18 : decode cX10_way 18 = .ok (.invokevirtual 288, 3) := by decide +kernel
theorem dX10_way_21 : decode cX10_way 21 = .ok (.ifCond .ne 5, 3) := by decide +kernel
theorem dX10_way_24 : decode cX10_way 24 = .ok (.iconst (-1), 1) := by decide +kernel
theorem dX10_way_25 : decode cX10_way 25 = .ok (.ireturn, 1) := by decide +kernel
theorem dX10_way_26 : decode cX10_way 26 = .ok (.aload_n 0, 1) := by decide +kernel
theorem dX10_way_27 : decode cX10_way 27 = .ok (.aload_n 0, 1) := by decide +kernel
theorem dX10_way_28 : decode cX10_way 28 = .ok (.getfield 280, 3) := by decide +kernel
theorem dX10_way_31 : decode cX10_way 31 = .ok (.invokevirtual 127, 3) := by decide +kernel
theorem dX10_way_34 : decode cX10_way 34 = .ok (.istore_n 3, 1) := by decide +kernel
theorem dX10_way_35 : decode cX10_way 35 = .ok (.iload_n 1, 1) := by decide +kernel
theorem dX10_way_36 : decode cX10_way 36 = .ok (.aload_n 0, 1) := by decide +kernel
theorem dX10_way_37 : decode cX10_way 37 = .ok (.getfield 283, 3) := by decide +kernel
theorem dX10_way_40 : decode cX10_way 40 = .ok (.isub, 1) := by decide +kernel
theorem dX10_way_41 : decode cX10_way 41 = .ok (.istore 4, 2) := by decide +kernel
theorem dX10_way_43 : decode cX10_way 43 = .ok (.iconst 0, 1) := by decide +kernel
theorem dX10_way_44 : decode cX10_way 44 = .ok (.istore 5, 2) := by decide +kernel
theorem dX10_way_46 : decode cX10_way 46 = .ok (.iload 5, 2) := by decide +kernel
theorem dX10_way_48 : decode cX10_way 48 = .ok (.iload_n 2, 1) := by decide +kernel
theorem dX10_way_49 : decode cX10_way 49 = .ok (.if_icmp .ge 68, 3) := by decide +kernel
theorem dX10_way_52 : decode cX10_way 52 = .ok (.iload_n 3, 1) := by decide +kernel
theorem dX10_way_53 : decode cX10_way 53 = .ok (.bipush 26, 2) := by decide +kernel
theorem dX10_way_55 : decode cX10_way 55 = .ok (.if_icmp .ge 5, 3) := by decide +kernel
theorem dX10_way_58 : decode cX10_way 58 = .ok (.iconst (-1), 1) := by decide +kernel
theorem dX10_way_59 : decode cX10_way 59 = .ok (.ireturn, 1) := by decide +kernel
theorem dX10_way_60 : decode cX10_way 60 = .ok (.iconst 0, 1) := by decide +kernel
theorem dX10_way_61 : decode cX10_way 61 = .ok (.istore 6, 2) := by decide +kernel
theorem dX10_way_63 : decode cX10_way 63 = .ok (.iload 4, 2) := by decide +kernel
theorem dX10_way_65 : decode cX10_way 65 = .ok (.aload_n 0, 1) := by decide +kernel
theorem dX10_way_66 : decode cX10_way 66 = .ok (.getfield 30, 3) := by decide +kernel
theorem dX10_way_69 : decode cX10_way 69 = .ok (.aload_n 0, 1) := by decide +kernel
theorem dX10_way_70 : decode cX10_way 70 = .ok (.iload_n 3, 1) := by decide +kernel
theorem dX10_way_71 : decode cX10_way 71 = .ok (.iload 6, 2) := by decide +kernel
theorem dX10_way_73 : decode cX10_way 73 = .ok (.invokevirtual 113, 3) := by decide +kernel
theorem dX10_way_76 : decode cX10_way 76 = .ok (.iaload, 1) := by decide +kernel
theorem dX10_way_77 : decode cX10_way 77 = .ok (.if_icmp .lt 26, 3) := by decide +kernel
theorem dX10_way_80 : decode cX10_way 80 = .ok (.iload 4, 2) := by decide +kernel
theorem dX10_way_82 : decode cX10_way 82 = .ok (.aload_n 0, 1) := by decide +kernel
theorem dX10_way_83 : decode cX10_way 83 = .ok (.getfield 30, 3) := by decide +kernel
theorem dX10_way_86 : decode cX10_way 86 = .ok (.aload_n 0, 1) := by decide +kernel
theorem dX10_way_87 : decode cX10_way 87 = .ok (.iload_n 3, 1) := by decide +kernel
theorem dX10_way_88 : decode cX10_way 88 = .ok (.iload 6, 2) := by decide +kernel
theorem dX10_way_90 : decode cX10_way 90 = .ok (.invokevirtual 113, 3) := by decide +kernel
theorem dX10_way_93 : decode cX10_way 93 = .ok (.iaload, 1) := by decide +kernel
theorem dX10_way_94 : decode cX10_way 94 = .ok (.isub, 1) := by decide +kernel
theorem dX10_way_95 : decode cX10_way 95 = .ok (.istore 4, 2) := by decide +kernel
theorem dX10_way_97 : decode cX10_way 97 = .ok (.iinc 6 1, 3) := by decide +kernel
theorem dX10_way_100 : decode cX10_way 100 = .ok (.goto (-37), 3) := by decide +kernel
theorem dX10_way_103 : decode cX10_way 103 = .ok (.aload_n 0, 1) := by decide +kernel
theorem dX10_way_104 : decode cX10_way 104 = .ok (.iload_n 3, 1) := by decide +kernel
theorem dX10_way_105 : decode cX10_way 105 = .ok (.iload 6, 2) := by decide +kernel
theorem dX10_way_107 : decode cX10_way 107 = .ok (.invokevirtual 113, 3) := by decide +kernel
theorem dX10_way_110 : decode cX10_way 110 = .ok (.istore_n 3, 1) := by decide +kernel
theorem dX10_way_111 : decode cX10_way 111 = .ok (.iinc 5 1, 3) := by decide +kernel
theorem dX10_way_114 : decode cX10_way 114 = .ok (.goto (-68), 3) := by decide +kernel
theorem dX10_way_117 : decode cX10_way 117 = .ok (.iload_n 3, 1) := by decide +kernel
theorem dX10_way_118 : decode cX10_way 118 = .ok (.ireturn, 1) := by decide +kernel
theorem dX10_ahead_0 : decode cX10_ahead 0 = .ok (.aload_n 0, 1) := by decide +kernel
theorem dX10_ahead_1 : decode cX10_ahead 1 = .ok (.iconst 0, 1) := by decide +kernel
theorem dX10_ahead_2 : decode cX10_ahead 2 = .ok (.putfield 1, 3) := by decide +kernel
theorem dX10_ahead_5 : decode cX10_ahead 5 = .ok (.iload_n 1, 1) := by decide +kernel
theorem dX10_ahead_6 : decode cX10_ahead 6 = .ok (.i2l, 1) := by decide +kernel
theorem dX10_ahead_7 : decode cX10_ahead 7 = .ok (.lconst 0, 1) := by decide +kernel
theorem dX10_ahead_8 : decode cX10_ahead 8 = .ok (.ldc2_w 96, 3) := by decide +kernel
theorem dX10_ahead_11 : decode cX10_ahead 11 = .ok (.invokestatic 98, 3) := by decide +kernel
theorem dX10_ahead_14 : decode cX10_ahead 14 = .ok (.ifCond .ne 6, 3) := by decide +kernel
theorem dX10_ahead_17 : decode cX10_ahead 17 = .ok (.bipush (-2), 2) := by decide +kernel
theorem dX10_ahead_19 : decode cX10_ahead 19 = .ok (.ireturn, 1) := by decide +kernel
theorem dX10_ahead_20 : decode cX10_ahead 20 = .ok (.aload_n 0, 1) := by decide +kernel
theorem dX10_ahead_21 : decode cX10_ahead 21 = .ok (.invokevirtual 224, 3) := by decide +kernel
theorem dX10_ahead_24 : decode cX10_ahead 24 = .ok (.iload_n 2, 1) := by decide +kernel
theorem dX10_ahead_25 : decode cX10_ahead 25 = .ok (.i2l, 1) := by decide +kernel
theorem dX10_ahead_26 : decode cX10_ahead 26 = .ok (.lconst 0, 1) := by decide +kernel
theorem dX10_ahead_27 : decode cX10_ahead 27 = .ok (.aload_n 0, 1) := by decide +kernel
theorem dX10_ahead_28 : decode cX10_ahead 28 = .ok (.getfield 120, 3) := by decide +kernel
theorem dX10_ahead_31 : decode cX10_ahead 31 = .ok (.i2l, 1) := by decide +kernel
theorem dX10_ahead_32 : decode cX10_ahead 32 = .ok (.invokestatic 98, 3) := by decide +kernel
theorem dX10_ahead_35 : decode cX10_ahead 35 = .ok (.ifCond .ne 6, 3) := by decide +kernel
theorem dX10_ahead_38 : decode cX10_ahead 38 = .ok (.bipush (-5), 2) := by decide +kernel
theorem dX10_ahead_40 : decode cX10_ahead 40 = .ok (.ireturn, 1) := by decide +kernel
theorem dX10_ahead_41 : decode cX10_ahead 41 = .ok (.iconst 0, 1) := by decide +kernel
theorem dX10_ahead_42 : decode cX10_ahead 42 = .ok (.istore_n 3, 1) := by decide +kernel
theorem dX10_ahead_43 : decode cX10_ahead 43 = .ok (.iconst 0, 1) := by decide +kernel
theorem dX10_ahead_44 : decode cX10_ahead 44 = .ok (.istore 4, 2) := by decide +kernel
theorem dX10_ahead_46 : decode cX10_ahead 46 = .ok (.iload 4, 2) := by decide +kernel
theorem dX10_ahead_48 : decode cX10_ahead 48 = .ok (.iload_n 2, 1) := by decide +kernel
theorem dX10_ahead_49 : decode cX10_ahead 49 = .ok (.if_icmp .ge 28, 3) := by decide +kernel
theorem dX10_ahead_52 : decode cX10_ahead 52 = .ok (.iload_n 3, 1) := by decide +kernel
theorem dX10_ahead_53 : decode cX10_ahead 53 = .ok (.aload_n 0, 1) := by decide +kernel
theorem dX10_ahead_54 : decode cX10_ahead 54 = .ok (.getfield 36, 3) := by decide +kernel
theorem dX10_ahead_57 : decode cX10_ahead 57 = .ok (.iload 4, 2) := by decide +kernel
theorem dX10_ahead_59 : decode cX10_ahead 59 = .ok (.iaload, 1) := by decide +kernel
theorem dX10_ahead_60 : decode cX10_ahead 60 = .ok (.iload_n 1, 1) := by decide +kernel
theorem dX10_ahead_61 : decode cX10_ahead 61 = .ok (.if_icmp .ne 7, 3) := by decide +kernel
theorem dX10_ahead_64 : decode cX10_ahead 64 = .ok (.iconst 1, 1) := by decide +kernel
theorem dX10_ahead_65 : decode cX10_ahead 65 = .ok (.goto 4, 3) := by decide +kernel
theorem dX10_ahead_68 : decode cX10_ahead 68 = .ok (.iconst 0, 1) := by decide +kernel
theorem dX10_ahead_69 : decode cX10_ahead 69 = .ok (.iadd, 1) := by decide +kernel
theorem dX10_ahead_70 : decode cX10_ahead 70 = .ok (.istore_n 3, 1) := by decide +kernel
theorem dX10_ahead_71 : decode cX10_ahead 71 = .ok (.iinc 4 1, 3) := by decide +kernel
theorem dX10_ahead_74 : decode cX10_ahead 74 = .ok (.goto (-28), 3) := by decide +kernel
theorem dX10_ahead_77 : decode cX10_ahead 77 = .ok (.iload_n 3, 1) := by decide +kernel
theorem dX10_ahead_78 : decode cX10_ahead 78 = .ok (.ireturn, 1) := by decide +kernel
theorem dX10_where_0 : decode cX10_where 0 = .ok (.aload_n 0, 1) := by decide +kernel
theorem dX10_where_1 : decode cX10_where 1 = .ok (.iconst 0, 1) := by decide +kernel
theorem dX10_where_2 : decode cX10_where 2 = .ok (.putfield 1, 3) := by decide +kernel
theorem dX10_where_5 : decode cX10_where 5 = .ok (.iload_n 1, 1) := by decide +kernel
theorem dX10_where_6 : decode cX10_where 6 = .ok (.i2l, 1) := by decide +kernel
theorem dX10_where_7 : decode cX10_where 7 = .ok (.lconst 0, 1) := by decide +kernel
theorem dX10_where_8 : decode cX10_where 8 = .ok (.ldc2_w 96, 3) := by decide +kernel
theorem dX10_where_11 : decode cX10_where 11 = .ok (.invokestatic 98, 3) := by decide +kernel
theorem dX10_where_14 : decode cX10_where 14 = .ok (.ifCond .ne 6, 3) := by decide +kernel
theorem dX10_where_17 : decode cX10_where 17 = .ok (.bipush (-2), 2) := by decide +kernel
theorem dX10_where_19 : decode cX10_where 19 = .ok (.ireturn, 1) := by decide +kernel
theorem dX10_where_20 : decode cX10_where 20 = .ok (.iload_n 2, 1) := by decide +kernel
theorem dX10_where_21 : decode cX10_where 21 = .ok (.ifCond .ge 6, 3) := by decide +kernel
theorem dX10_where_24 : decode cX10_where 24 = .ok (.bipush (-3), 2) := by decide +kernel
theorem dX10_where_26 : decode cX10_where 26 = .ok (.ireturn, 1) := by decide +kernel
theorem dX10_where_27 : decode cX10_where 27 = .ok (.aload_n 0, 1) := by decide +kernel
theorem dX10_where_28 : decode cX10_where 28 = .ok (.invokevirtual 224, 3) := by decide +kernel
theorem dX10_where_31 : decode cX10_where 31 = .ok (.iconst 0, 1) := by decide +kernel
theorem dX10_where_32 : decode cX10_where 32 = .ok (.istore_n 3, 1) := by decide +kernel
theorem dX10_where_33 : decode cX10_where 33 = .ok (.iconst 0, 1) := by decide +kernel
theorem dX10_where_34 : decode cX10_where 34 = .ok (.istore 4, 2) := by decide +kernel
theorem dX10_where_36 : decode cX10_where 36 = .ok (.iload 4, 2) := by decide +kernel
theorem dX10_where_38 : decode cX10_where 38 = .ok (.aload_n 0, 1) := by decide +kernel
theorem dX10_where_39 : decode cX10_where 39 = .ok (.getfield 120, 3) := by decide +kernel
theorem dX10_where_42 : decode cX10_where 42 = .ok (.if_icmp .ge 34, 3) := by decide +kernel
theorem dX10_where_45 : decode cX10_where 45 = .ok (.aload_n 0, 1) := by decide +kernel
theorem dX10_where_46 : decode cX10_where 46 = .ok (.getfield 36, 3) := by decide +kernel
theorem dX10_where_49 : decode cX10_where 49 = .ok (.iload 4, 2) := by decide +kernel
theorem dX10_where_51 : decode cX10_where 51 = .ok (.iaload, 1) := by decide +kernel
theorem dX10_where_52 : decode cX10_where 52 = .ok (.iload_n 1, 1) := by decide +kernel
theorem dX10_where_53 : decode cX10_where 53 = .ok (.if_icmp .eq 6, 3) := by decide +kernel
theorem dX10_where_56 : decode cX10_where 56 = .ok (.goto 14, 3) := by decide +kernel
theorem dX10_where_59 : decode cX10_where 59 = .ok (.iload_n 3, 1) := by decide +kernel
theorem dX10_where_60 : decode cX10_where 60 = .ok (.iload_n 2, 1) := by decide +kernel
theorem dX10_where_61 : decode cX10_where 61 = .ok (.if_icmp .ne 6, 3) := by decide +kernel
theorem dX10_where_64 : decode cX10_where 64 = .ok (.iload 4, 2) := by decide +kernel
theorem dX10_where_66 : decode cX10_where 66 = .ok (.ireturn, 1) := by decide +kernel
theorem dX10_where_67 : decode cX10_where 67 = .ok (.iinc 3 1, 3) := by decide +kernel
theorem dX10_where_70 : decode cX10_where 70 = .ok (.iinc 4 1, 3) := by decide +kernel
theorem dX10_where_73 : decode cX10_where 73 = .ok (.goto (-37), 3) := by decide +kernel
theorem dX10_where_76 : decode cX10_where 76 = .ok (.iconst (-1), 1) := by decide +kernel
theorem dX10_where_77 : decode cX10_where 77 = .ok (.ireturn, 1) := by decide +kernel
theorem dX10_commonOf_0 : decode cX10_commonOf 0 = .ok (.iconst 0, 1) := by decide +kernel
theorem dX10_commonOf_1 : decode cX10_commonOf 1 = .ok (.istore_n 3, 1) := by decide +kernel
theorem dX10_commonOf_2 : decode cX10_commonOf 2 = .ok (.iload_n 1, 1) := by decide +kernel
theorem dX10_commonOf_3 : decode cX10_commonOf 3 = .ok (.iload_n 3, 1) := by decide +kernel
theorem dX10_commonOf_4 : decode cX10_commonOf 4 = .ok (.iadd, 1) := by decide +kernel
theorem dX10_commonOf_5 : decode cX10_commonOf 5 = .ok (.aload_n 0, 1) := by decide +kernel
theorem dX10_commonOf_6 : decode cX10_commonOf 6 = .ok (.getfield 120, 3) := by decide +kernel
theorem dX10_commonOf_9 : decode cX10_commonOf 9 = .ok (.if_icmp .ge 38, 3) := by decide +kernel
theorem dX10_commonOf_12 : decode cX10_commonOf 12 = .ok (.iload_n 2, 1) := by decide +kernel
theorem dX10_commonOf_13 : decode cX10_commonOf 13 = .ok (.iload_n 3, 1) := by decide +kernel
theorem dX10_commonOf_14 : decode cX10_commonOf 14 = .ok (.iadd, 1) := by decide +kernel
theorem dX10_commonOf_15 : decode cX10_commonOf 15 = .ok (.aload_n 0, 1) := by decide +kernel
theorem dX10_commonOf_16 : decode cX10_commonOf 16 = .ok (.getfield 120, 3) := by decide +kernel
theorem dX10_commonOf_19 : decode cX10_commonOf 19 = .ok (.if_icmp .ge 28, 3) := by decide +kernel
theorem dX10_commonOf_22 : decode cX10_commonOf 22 = .ok (.aload_n 0, 1) := by decide +kernel
theorem dX10_commonOf_23 : decode cX10_commonOf 23 = .ok (.getfield 36, 3) := by decide +kernel
theorem dX10_commonOf_26 : decode cX10_commonOf 26 = .ok (.iload_n 1, 1) := by decide +kernel
theorem dX10_commonOf_27 : decode cX10_commonOf 27 = .ok (.iload_n 3, 1) := by decide +kernel
theorem dX10_commonOf_28 : decode cX10_commonOf 28 = .ok (.iadd, 1) := by decide +kernel
theorem dX10_commonOf_29 : decode cX10_commonOf 29 = .ok (.iaload, 1) := by decide +kernel
theorem dX10_commonOf_30 : decode cX10_commonOf 30 = .ok (.aload_n 0, 1) := by decide +kernel
theorem dX10_commonOf_31 : decode cX10_commonOf 31 = .ok (.getfield 36, 3) := by decide +kernel
theorem dX10_commonOf_34 : decode cX10_commonOf 34 = .ok (.iload_n 2, 1) := by decide +kernel
theorem dX10_commonOf_35 : decode cX10_commonOf 35 = .ok (.iload_n 3, 1) := by decide +kernel
theorem dX10_commonOf_36 : decode cX10_commonOf 36 = .ok (.iadd, 1) := by decide +kernel
theorem dX10_commonOf_37 : decode cX10_commonOf 37 = .ok (.iaload, 1) := by decide +kernel
theorem dX10_commonOf_38 : decode cX10_commonOf 38 = .ok (.if_icmp .ne 9, 3) := by decide +kernel
theorem dX10_commonOf_41 : decode cX10_commonOf 41 = .ok (.iinc 3 1, 3) := by decide +kernel
theorem dX10_commonOf_44 : decode cX10_commonOf 44 = .ok (.goto (-42), 3) := by decide +kernel
theorem dX10_commonOf_47 : decode cX10_commonOf 47 = .ok (.iload_n 3, 1) := by decide +kernel
theorem dX10_commonOf_48 : decode cX10_commonOf 48 = .ok (.ireturn, 1) := by decide +kernel
theorem dX10_arePlaces_0 : decode cX10_arePlaces 0 = .ok (.aload_n 0, 1) := by decide +kernel
theorem dX10_arePlaces_1 : decode cX10_arePlaces 1 = .ok (.invokevirtual 224, 3) := by decide +kernel
theorem dX10_arePlaces_4 : decode cX10_arePlaces 4 = .ok (.iload_n 1, 1) := by decide +kernel
theorem dX10_arePlaces_5 : decode cX10_arePlaces 5 = .ok (.i2l, 1) := by decide +kernel
theorem dX10_arePlaces_6 : decode cX10_arePlaces 6 = .ok (.lconst 0, 1) := by decide +kernel
theorem dX10_arePlaces_7 : decode cX10_arePlaces 7 = .ok (.aload_n 0, 1) := by decide +kernel
theorem dX10_arePlaces_8 : decode cX10_arePlaces 8 = .ok (.getfield 120, 3) := by decide +kernel
theorem dX10_arePlaces_11 : decode cX10_arePlaces 11 = .ok (.iconst 1, 1) := by decide +kernel
theorem dX10_arePlaces_12 : decode cX10_arePlaces 12 = .ok (.isub, 1) := by decide +kernel
theorem dX10_arePlaces_13 : decode cX10_arePlaces 13 = .ok (.i2l, 1) := by decide +kernel
theorem dX10_arePlaces_14 : decode cX10_arePlaces 14 = .ok (.invokestatic 98, 3) := by decide +kernel
theorem dX10_arePlaces_17 : decode cX10_arePlaces 17 = .ok (.ifCond .eq 23, 3) := by decide +kernel
theorem dX10_arePlaces_20 : decode cX10_arePlaces 20 = .ok (.iload_n 2, 1) := by decide +kernel
theorem dX10_arePlaces_21 : decode cX10_arePlaces 21 = .ok (.i2l, 1) := by decide +kernel
theorem dX10_arePlaces_22 : decode cX10_arePlaces 22 = .ok (.lconst 0, 1) := by decide +kernel
theorem dX10_arePlaces_23 : decode cX10_arePlaces 23 = .ok (.aload_n 0, 1) := by decide +kernel
theorem dX10_arePlaces_24 : decode cX10_arePlaces 24 = .ok (.getfield 120, 3) := by decide +kernel
theorem dX10_arePlaces_27 : decode cX10_arePlaces 27 = .ok (.iconst 1, 1) := by decide +kernel
theorem dX10_arePlaces_28 : decode cX10_arePlaces 28 = .ok (.isub, 1) := by decide +kernel
theorem dX10_arePlaces_29 : decode cX10_arePlaces 29 = .ok (.i2l, 1) := by decide +kernel
theorem dX10_arePlaces_30 : decode cX10_arePlaces 30 = .ok (.invokestatic 98, 3) := by decide +kernel
theorem dX10_arePlaces_33 : decode cX10_arePlaces 33 = .ok (.ifCond .eq 7, 3) := by decide +kernel
theorem dX10_arePlaces_36 : decode cX10_arePlaces 36 = .ok (.iconst 1, 1) := by decide +kernel
theorem dX10_arePlaces_37 : decode cX10_arePlaces 37 = .ok (.goto 4, 3) := by decide +kernel
theorem dX10_arePlaces_40 : decode cX10_arePlaces 40 = .ok (.iconst 0, 1) := by decide +kernel
theorem dX10_arePlaces_41 : decode cX10_arePlaces 41 = .ok (.ireturn, 1) := by decide +kernel
theorem dX10_common_0 : decode cX10_common 0 = .ok (.aload_n 0, 1) := by decide +kernel
theorem dX10_common_1 : decode cX10_common 1 = .ok (.iconst 0, 1) := by decide +kernel
theorem dX10_common_2 : decode cX10_common 2 = .ok (.putfield 1, 3) := by decide +kernel
theorem dX10_common_5 : decode cX10_common 5 = .ok (.aload_n 0, 1) := by decide +kernel
theorem dX10_common_6 : decode cX10_common 6 = .ok (.iload_n 1, 1) := by decide +kernel
theorem dX10_common_7 : decode cX10_common 7 = .ok (.iload_n 2, 1) := by decide +kernel
theorem dX10_common_8 : decode cX10_common 8 = .ok (.invokevirtual 291, 3) := by decide +kernel
theorem dX10_common_11 : decode cX10_common 11 = .ok (.ifCond .eq 12, 3) := by decide +kernel
theorem dX10_common_14 : decode cX10_common 14 = .ok (.aload_n 0, 1) := by decide +kernel
theorem dX10_common_15 : decode cX10_common 15 = .ok (.iload_n 1, 1) := by decide +kernel
theorem dX10_common_16 : decode cX10_common 16 = .ok (.iload_n 2, 1) := by decide +kernel
theorem dX10_common_17 : decode cX10_common 17 = .ok (.invokevirtual 294, 3) := by decide +kernel
theorem dX10_common_20 : decode cX10_common 20 = .ok (.goto 5, 3) := by decide +kernel
theorem dX10_common_23 : decode cX10_common 23 = .ok (.bipush (-5), 2) := by decide +kernel
theorem dX10_common_25 : decode cX10_common 25 = .ok (.ireturn, 1) := by decide +kernel
theorem dX10_compare_0 : decode cX10_compare 0 = .ok (.aload_n 0, 1) := by decide +kernel
theorem dX10_compare_1 : decode cX10_compare 1 = .ok (.iconst 0, 1) := by decide +kernel
theorem dX10_compare_2 : decode cX10_compare 2 = .ok (.putfield 1, 3) := by decide +kernel
theorem dX10_compare_5 : decode cX10_compare 5 = .ok (.aload_n 0, 1) := by decide +kernel
theorem dX10_compare_6 : decode cX10_compare 6 = .ok (.iload_n 1, 1) := by decide +kernel
theorem dX10_compare_7 : decode cX10_compare 7 = .ok (.iload_n 2, 1) := by decide +kernel
theorem dX10_compare_8 : decode cX10_compare 8 = .ok (.invokevirtual 291, 3) := by decide +kernel
theorem dX10_compare_11 : decode cX10_compare 11 = .ok (.ifCond .ne 6, 3) := by decide +kernel
theorem dX10_compare_14 : decode cX10_compare 14 = .ok (.bipush (-5), 2) := by decide +kernel
theorem dX10_compare_16 : decode cX10_compare 16 = .ok (.ireturn, 1) := by decide +kernel
theorem dX10_compare_17 : decode cX10_compare 17 = .ok (.iload_n 1, 1) := by decide +kernel
theorem dX10_compare_18 : decode cX10_compare 18 = .ok (.iload_n 2, 1) := by decide +kernel
theorem dX10_compare_19 : decode cX10_compare 19 = .ok (.if_icmp .ne 5, 3) := by decide +kernel
theorem dX10_compare_22 : decode cX10_compare 22 = .ok (.iconst 0, 1) := by decide +kernel
theorem dX10_compare_23 : decode cX10_compare 23 = .ok (.ireturn, 1) := by decide +kernel
theorem dX10_compare_24 : decode cX10_compare 24 = .ok (.aload_n 0, 1) := by decide +kernel
theorem dX10_compare_25 : decode cX10_compare 25 = .ok (.iload_n 1, 1) := by decide +kernel
theorem dX10_compare_26 : decode cX10_compare 26 = .ok (.iload_n 2, 1) := by decide +kernel
theorem dX10_compare_27 : decode cX10_compare 27 = .ok (.invokevirtual 294, 3) := by decide +kernel
theorem dX10_compare_30 : decode cX10_compare 30 = .ok (.istore_n 3, 1) := by decide +kernel
theorem dX10_compare_31 : decode cX10_compare 31 = .ok (.iload_n 1, 1) := by decide +kernel
theorem dX10_compare_32 : decode cX10_compare 32 = .ok (.iload_n 3, 1) := by decide +kernel
theorem dX10_compare_33 : decode cX10_compare 33 = .ok (.iadd, 1) := by decide +kernel
theorem dX10_compare_34 : decode cX10_compare 34 = .ok (.aload_n 0, 1) := by decide +kernel
theorem dX10_compare_35 : decode cX10_compare 35 = .ok (.getfield 120, 3) := by decide +kernel
theorem dX10_compare_38 : decode cX10_compare 38 = .ok (.if_icmp .ne 5, 3) := by decide +kernel
theorem dX10_compare_41 : decode cX10_compare 41 = .ok (.iconst 1, 1) := by decide +kernel
theorem dX10_compare_42 : decode cX10_compare 42 = .ok (.ireturn, 1) := by decide +kernel
theorem dX10_compare_43 : decode cX10_compare 43 = .ok (.iload_n 2, 1) := by decide +kernel
theorem dX10_compare_44 : decode cX10_compare 44 = .ok (.iload_n 3, 1) := by decide +kernel
theorem dX10_compare_45 : decode cX10_compare 45 = .ok (.iadd, 1) := by decide +kernel
theorem dX10_compare_46 : decode cX10_compare 46 = .ok (.aload_n 0, 1) := by decide +kernel
theorem dX10_compare_47 : decode cX10_compare 47 = .ok (.getfield 120, 3) := by decide +kernel
theorem dX10_compare_50 : decode cX10_compare 50 = .ok (.if_icmp .ne 5, 3) := by decide +kernel
theorem dX10_compare_53 : decode cX10_compare 53 = .ok (.iconst 2, 1) := by decide +kernel
theorem dX10_compare_54 : decode cX10_compare 54 = .ok (.ireturn, 1) := by decide +kernel
theorem dX10_compare_55 : decode cX10_compare 55 = .ok (.aload_n 0, 1) := by decide +kernel
theorem dX10_compare_56 : decode cX10_compare 56 = .ok (.getfield 36, 3) := by decide +kernel
theorem dX10_compare_59 : decode cX10_compare 59 = .ok (.iload_n 1, 1) := by decide +kernel
theorem dX10_compare_60 : decode cX10_compare 60 = .ok (.iload_n 3, 1) := by decide +kernel
theorem dX10_compare_61 : decode cX10_compare 61 = .ok (.iadd, 1) := by decide +kernel
theorem dX10_compare_62 : decode cX10_compare 62 = .ok (.iaload, 1) := by decide +kernel
theorem dX10_compare_63 : decode cX10_compare 63 = .ok (.aload_n 0, 1) := by decide +kernel
theorem dX10_compare_64 : decode cX10_compare 64 = .ok (.getfield 36, 3) := by decide +kernel
theorem dX10_compare_67 : decode cX10_compare 67 = .ok (.iload_n 2, 1) := by decide +kernel
theorem dX10_compare_68 : decode cX10_compare 68 = .ok (.iload_n 3, 1) := by decide +kernel
theorem dX10_compare_69 : decode cX10_compare 69 = .ok (.iadd, 1) := by decide +kernel
theorem dX10_compare_70 : decode cX10_compare 70 = .ok (.iaload, 1) := by decide +kernel
theorem dX10_compare_71 : decode cX10_compare 71 = .ok (.if_icmp .ge 7, 3) := by decide +kernel
theorem dX10_compare_74 : decode cX10_compare 74 = .ok (.iconst 1, 1) := by decide +kernel
theorem dX10_compare_75 : decode cX10_compare 75 = .ok (.goto 4, 3) := by decide +kernel
theorem dX10_compare_78 : decode cX10_compare 78 = .ok (.iconst 2, 1) := by decide +kernel
theorem dX10_compare_79 : decode cX10_compare 79 = .ok (.ireturn, 1) := by decide +kernel
theorem dX10_print_0 : decode cX10_print 0 = .ok (.aload_n 0, 1) := by decide +kernel
theorem dX10_print_1 : decode cX10_print 1 = .ok (.iconst 0, 1) := by decide +kernel
theorem dX10_print_2 : decode cX10_print 2 = .ok (.putfield 1, 3) := by decide +kernel
theorem dX10_print_5 : decode cX10_print 5 = .ok (.iload_n 2, 1) := by decide +kernel
theorem dX10_print_6 : decode cX10_print 6 = .ok (.ifCond .ge 6, 3) := by decide +kernel
theorem dX10_print_9 : decode cX10_print 9 = .ok (.bipush (-3), 2) := by decide +kernel
theorem dX10_print_11 : decode cX10_print 11 = .ok (.ireturn, 1) := by decide +kernel
theorem dX10_print_12 : decode cX10_print 12 = .ok (.aload_n 0, 1) := by decide +kernel
theorem dX10_print_13 : decode cX10_print 13 = .ok (.invokevirtual 224, 3) := by decide +kernel
theorem dX10_print_16 : decode cX10_print 16 = .ok (.iload_n 1, 1) := by decide +kernel
theorem dX10_print_17 : decode cX10_print 17 = .ok (.ifCond .lt 17, 3) := by decide +kernel
theorem dX10_print_20 : decode cX10_print 20 = .ok (.iload_n 1, 1) := by decide +kernel
theorem dX10_print_21 : decode cX10_print 21 = .ok (.i2l, 1) := by decide +kernel
theorem dX10_print_22 : decode cX10_print 22 = .ok (.iload_n 2, 1) := by decide +kernel
theorem dX10_print_23 : decode cX10_print 23 = .ok (.i2l, 1) := by decide +kernel
theorem dX10_print_24 : decode cX10_print 24 = .ok (.ladd, 1) := by decide +kernel
theorem dX10_print_25 : decode cX10_print 25 = .ok (.aload_n 0, 1) := by decide +kernel
theorem dX10_print_26 : decode cX10_print 26 = .ok (.getfield 120, 3) := by decide +kernel
theorem dX10_print_29 : decode cX10_print 29 = .ok (.i2l, 1) := by decide +kernel
theorem dX10_print_30 : decode cX10_print 30 = .ok (.lcmp, 1) := by decide +kernel
theorem dX10_print_31 : decode cX10_print 31 = .ok (.ifCond .le 6, 3) := by decide +kernel
theorem dX10_print_34 : decode cX10_print 34 = .ok (.bipush (-5), 2) := by decide +kernel
theorem dX10_print_36 : decode cX10_print 36 = .ok (.ireturn, 1) := by decide +kernel
theorem dX10_print_37 : decode cX10_print 37 = .ok (.iconst 0, 1) := by decide +kernel
theorem dX10_print_38 : decode cX10_print 38 = .ok (.istore_n 3, 1) := by decide +kernel
theorem dX10_print_39 : decode cX10_print 39 = .ok (.iconst 0, 1) := by decide +kernel
theorem dX10_print_40 : decode cX10_print 40 = .ok (.istore 4, 2) := by decide +kernel
theorem dX10_print_42 : decode cX10_print 42 = .ok (.iload 4, 2) := by decide +kernel
theorem dX10_print_44 : decode cX10_print 44 = .ok (.iload_n 2, 1) := by decide +kernel
theorem dX10_print_45 : decode cX10_print 45 = .ok (.if_icmp .ge 30, 3) := by decide +kernel
theorem dX10_print_48 : decode cX10_print 48 = .ok (.bipush 31, 2) := by decide +kernel
theorem dX10_print_50 : decode cX10_print 50 = .ok (.iload_n 3, 1) := by decide +kernel
theorem dX10_print_51 : decode cX10_print 51 = .ok (.imul, 1) := by decide +kernel
theorem dX10_print_52 : decode cX10_print 52 = .ok (.aload_n 0, 1) := by decide +kernel
theorem dX10_print_53 : decode cX10_print 53 = .ok (.getfield 36, 3) := by decide +kernel
theorem dX10_print_56 : decode cX10_print 56 = .ok (.iload_n 1, 1) := by decide +kernel
theorem dX10_print_57 : decode cX10_print 57 = .ok (.iload 4, 2) := by decide +kernel
theorem dX10_print_59 : decode cX10_print 59 = .ok (.iadd, 1) := by decide +kernel
theorem dX10_print_60 : decode cX10_print 60 = .ok (.iaload, 1) := by decide +kernel
theorem dX10_print_61 : decode cX10_print 61 = .ok (.iadd, 1) := by decide +kernel
theorem dX10_print_62 : decode cX10_print 62 = .ok (.iconst 1, 1) := by decide +kernel
theorem dX10_print_63 : decode cX10_print 63 = .ok (.iadd, 1) := by decide +kernel
theorem dX10_print_64 : decode cX10_print 64 = .ok (.ldc_w 297, 3) := by decide +kernel
theorem dX10_print_67 : decode cX10_print 67 = .ok (.irem, 1) := by decide +kernel
theorem dX10_print_68 : decode cX10_print 68 = .ok (.istore_n 3, 1) := by decide +kernel
theorem dX10_print_69 : decode cX10_print 69 = .ok (.iinc 4 1, 3) := by decide +kernel
theorem dX10_print_72 : decode cX10_print 72 = .ok (.goto (-30), 3) := by decide +kernel
theorem dX10_print_75 : decode cX10_print 75 = .ok (.iload_n 3, 1) := by decide +kernel
theorem dX10_print_76 : decode cX10_print 76 = .ok (.ireturn, 1) := by decide +kernel
theorem dX10_laysTwice_0 : decode cX10_laysTwice 0 = .ok (.aload_n 0, 1) := by decide +kernel
theorem dX10_laysTwice_1 : decode cX10_laysTwice 1 = .ok (.invokevirtual 224, 3) := by decide +kernel
theorem dX10_laysTwice_4 : decode cX10_laysTwice 4 = .ok (.aload_n 0, 1) := by decide +kernel
theorem dX10_laysTwice_5 : decode cX10_laysTwice 5 = .ok (.iconst 0, 1) := by decide +kernel
theorem dX10_laysTwice_6 : decode cX10_laysTwice 6 = .ok (.putfield 298, 3) := by decide +kernel
theorem dX10_laysTwice_9 : decode cX10_laysTwice 9 = .ok (.aload_n 0, 1) := by decide +kernel
theorem dX10_laysTwice_10 : decode cX10_laysTwice 10 = .ok (.iconst (-1), 1) := by decide +kernel
theorem dX10_laysTwice_11 : decode cX10_laysTwice 11 = .ok (.putfield 301, 3) := by decide +kernel
theorem dX10_laysTwice_14 : decode cX10_laysTwice 14 = .ok (.iconst 0, 1) := by decide +kernel
theorem dX10_laysTwice_15 : decode cX10_laysTwice 15 = .ok (.istore_n 1, 1) := by decide +kernel
theorem dX10_laysTwice_16 : decode cX10_laysTwice 16 = .ok (.iload_n 1, 1) := by decide +kernel
theorem dX10_laysTwice_17 : decode cX10_laysTwice 17 = .ok (.aload_n 0, 1) := by decide +kernel
theorem dX10_laysTwice_18 : decode cX10_laysTwice 18 = .ok (.getfield 120, 3) := by decide +kernel
theorem dX10_laysTwice_21 : decode cX10_laysTwice 21 = .ok (.if_icmp .ge 55, 3) := by decide +kernel
theorem dX10_laysTwice_24 : decode cX10_laysTwice 24 = .ok (.iload_n 1, 1) := by decide +kernel
theorem dX10_laysTwice_25 : decode cX10_laysTwice 25 = .ok (.iconst 1, 1) := by decide +kernel
theorem dX10_laysTwice_26 : decode cX10_laysTwice 26 = .ok (.iadd, 1) := by decide +kernel
theorem dX10_laysTwice_27 : decode cX10_laysTwice 27 = .ok (.istore_n 2, 1) := by decide +kernel
theorem dX10_laysTwice_28 : decode cX10_laysTwice 28 = .ok (.iload_n 2, 1) := by decide +kernel
theorem dX10_laysTwice_29 : decode cX10_laysTwice 29 = .ok (.aload_n 0, 1) := by decide +kernel
theorem dX10_laysTwice_30 : decode cX10_laysTwice 30 = .ok (.getfield 120, 3) := by decide +kernel
theorem dX10_laysTwice_33 : decode cX10_laysTwice 33 = .ok (.if_icmp .ge 37, 3) := by decide +kernel
theorem dX10_laysTwice_36 : decode cX10_laysTwice 36 = .ok (.aload_n 0, 1) := by decide +kernel
theorem dX10_laysTwice_37 : decode cX10_laysTwice 37 = .ok (.iload_n 1, 1) := by decide +kernel
theorem dX10_laysTwice_38 : decode cX10_laysTwice 38 = .ok (.iload_n 2, 1) := by decide +kernel
theorem dX10_laysTwice_39 : decode cX10_laysTwice 39 = .ok (.invokevirtual 294, 3) := by decide +kernel
theorem dX10_laysTwice_42 : decode cX10_laysTwice 42 = .ok (.istore_n 3, 1) := by decide +kernel
theorem dX10_laysTwice_43 : decode cX10_laysTwice 43 = .ok (.iload_n 3, 1) := by decide +kernel
theorem dX10_laysTwice_44 : decode cX10_laysTwice 44 = .ok (.aload_n 0, 1) := by decide +kernel
theorem dX10_laysTwice_45 : decode cX10_laysTwice 45 = .ok (.getfield 298, 3) := by decide +kernel
theorem dX10_laysTwice_48 : decode cX10_laysTwice 48 = .ok (.if_icmp .gt 6, 3) := by decide +kernel
theorem dX10_laysTwice_51 : decode cX10_laysTwice 51 = .ok (.goto 13, 3) := by decide +kernel
theorem dX10_laysTwice_54 : decode cX10_laysTwice 54 = .ok (.aload_n 0, 1) := by decide +kernel
theorem dX10_laysTwice_55 : decode cX10_laysTwice 55 = .ok (.iload_n 3, 1) := by decide +kernel
theorem dX10_laysTwice_56 : decode cX10_laysTwice 56 = .ok (.putfield 298, 3) := by decide +kernel
theorem dX10_laysTwice_59 : decode cX10_laysTwice 59 = .ok (.aload_n 0, 1) := by decide +kernel
theorem dX10_laysTwice_60 : decode cX10_laysTwice 60 = .ok (.iload_n 1, 1) := by decide +kernel
theorem dX10_laysTwice_61 : decode cX10_laysTwice 61 = .ok (.putfield 301, 3) := by decide +kernel
theorem dX10_laysTwice_64 : decode cX10_laysTwice 64 = .ok (.iinc 2 1, 3) := by decide +kernel
theorem dX10_laysTwice_67 : decode cX10_laysTwice 67 = .ok (.goto (-39), 3) := by decide +kernel
theorem dX10_laysTwice_70 : decode cX10_laysTwice 70 = .ok (.iinc 1 1, 3) := by decide +kernel
theorem dX10_laysTwice_73 : decode cX10_laysTwice 73 = .ok (.goto (-57), 3) := by decide +kernel
theorem dX10_laysTwice_76 : decode cX10_laysTwice 76 = .ok (.return_, 1) := by decide +kernel
theorem dX10_repeat_0 : decode cX10_repeat 0 = .ok (.aload_n 0, 1) := by decide +kernel
theorem dX10_repeat_1 : decode cX10_repeat 1 = .ok (.iconst 0, 1) := by decide +kernel
theorem dX10_repeat_2 : decode cX10_repeat 2 = .ok (.putfield 1, 3) := by decide +kernel
theorem dX10_repeat_5 : decode cX10_repeat 5 = .ok (.aload_n 0, 1) := by decide +kernel
theorem dX10_repeat_6 : decode cX10_repeat 6 = .ok (.invokevirtual 304, 3) := by decide +kernel
theorem dX10_repeat_9 : decode cX10_repeat 9 = .ok (.aload_n 0, 1) := by decide +kernel
theorem dX10_repeat_10 : decode cX10_repeat 10 = .ok (.getfield 298, 3) := by decide +kernel
theorem dX10_repeat_13 : decode cX10_repeat 13 = .ok (.ireturn, 1) := by decide +kernel
theorem dX10_repeatAt_0 : decode cX10_repeatAt 0 = .ok (.aload_n 0, 1) := by decide +kernel
theorem dX10_repeatAt_1 : decode cX10_repeatAt 1 = .ok (.iconst 0, 1) := by decide +kernel
theorem dX10_repeatAt_2 : decode cX10_repeatAt 2 = .ok (.putfield 1, 3) := by decide +kernel
theorem dX10_repeatAt_5 : decode cX10_repeatAt 5 = .ok (.aload_n 0, 1) := by decide +kernel
theorem dX10_repeatAt_6 : decode cX10_repeatAt 6 = .ok (.invokevirtual 304, 3) := by decide +kernel
theorem dX10_repeatAt_9 : decode cX10_repeatAt 9 = .ok (.aload_n 0, 1) := by decide +kernel
theorem dX10_repeatAt_10 : decode cX10_repeatAt 10 = .ok (.getfield 301, 3) := by decide +kernel
theorem dX10_repeatAt_13 : decode cX10_repeatAt 13 = .ok (.ireturn, 1) := by decide +kernel
theorem dX10_isHit_0 : decode cX10_isHit 0 = .ok (.aload_n 0, 1) := by decide +kernel
theorem dX10_isHit_1 : decode cX10_isHit 1 = .ok (.getfield 221, 3) := by decide +kernel
theorem dX10_isHit_4 : decode cX10_isHit 4 = .ok (.ifCond .eq 16, 3) := by decide +kernel
theorem dX10_isHit_7 : decode cX10_isHit 7 = .ok (.iload_n 1, 1) := by decide +kernel
theorem dX10_isHit_8 : decode cX10_isHit 8 = .ok (.aload_n 0, 1) := by decide +kernel
theorem dX10_isHit_9 : decode cX10_isHit 9 = .ok (.getfield 221, 3) := by decide +kernel
theorem dX10_isHit_12 : decode cX10_isHit 12 = .ok (.iadd, 1) := by decide +kernel
theorem dX10_isHit_13 : decode cX10_isHit 13 = .ok (.aload_n 0, 1) := by decide +kernel
theorem dX10_isHit_14 : decode cX10_isHit 14 = .ok (.getfield 120, 3) := by decide +kernel
theorem dX10_isHit_17 : decode cX10_isHit 17 = .ok (.if_icmp .le 5, 3) := by decide +kernel
theorem dX10_isHit_20 : decode cX10_isHit 20 = .ok (.iconst 0, 1) := by decide +kernel
theorem dX10_isHit_21 : decode cX10_isHit 21 = .ok (.ireturn, 1) := by decide +kernel
theorem dX10_isHit_22 : decode cX10_isHit 22 = .ok (.iconst 0, 1) := by decide +kernel
theorem dX10_isHit_23 : decode cX10_isHit 23 = .ok (.istore_n 2, 1) := by decide +kernel
theorem dX10_isHit_24 : decode cX10_isHit 24 = .ok (.iload_n 2, 1) := by decide +kernel
theorem dX10_isHit_25 : decode cX10_isHit 25 = .ok (.aload_n 0, 1) := by decide +kernel
theorem dX10_isHit_26 : decode cX10_isHit 26 = .ok (.getfield 221, 3) := by decide +kernel
theorem dX10_isHit_29 : decode cX10_isHit 29 = .ok (.if_icmp .ge 28, 3) := by decide +kernel
theorem dX10_isHit_32 : decode cX10_isHit 32 = .ok (.aload_n 0, 1) := by decide +kernel
theorem dX10_isHit_33 : decode cX10_isHit 33 = .ok (.getfield 36, 3) := by decide +kernel
theorem dX10_isHit_36 : decode cX10_isHit 36 = .ok (.iload_n 1, 1) := by decide +kernel
theorem dX10_isHit_37 : decode cX10_isHit 37 = .ok (.iload_n 2, 1) := by decide +kernel
theorem dX10_isHit_38 : decode cX10_isHit 38 = .ok (.iadd, 1) := by decide +kernel
theorem dX10_isHit_39 : decode cX10_isHit 39 = .ok (.iaload, 1) := by decide +kernel
theorem dX10_isHit_40 : decode cX10_isHit 40 = .ok (.aload_n 0, 1) := by decide +kernel
theorem dX10_isHit_41 : decode cX10_isHit 41 = .ok (.getfield 49, 3) := by decide +kernel
theorem dX10_isHit_44 : decode cX10_isHit 44 = .ok (.iload_n 2, 1) := by decide +kernel
theorem dX10_isHit_45 : decode cX10_isHit 45 = .ok (.iaload, 1) := by decide +kernel
theorem dX10_isHit_46 : decode cX10_isHit 46 = .ok (.if_icmp .eq 5, 3) := by decide +kernel
theorem dX10_isHit_49 : decode cX10_isHit 49 = .ok (.iconst 0, 1) := by decide +kernel
theorem dX10_isHit_50 : decode cX10_isHit 50 = .ok (.ireturn, 1) := by decide +kernel
theorem dX10_isHit_51 : decode cX10_isHit 51 = .ok (.iinc 2 1, 3) := by decide +kernel
theorem dX10_isHit_54 : decode cX10_isHit 54 = .ok (.goto (-30), 3) := by decide +kernel
theorem dX10_isHit_57 : decode cX10_isHit 57 = .ok (.iconst 1, 1) := by decide +kernel
theorem dX10_isHit_58 : decode cX10_isHit 58 = .ok (.ireturn, 1) := by decide +kernel
theorem dX10_hitsIn_0 : decode cX10_hitsIn 0 = .ok (.iconst 0, 1) := by decide +kernel
theorem dX10_hitsIn_1 : decode cX10_hitsIn 1 = .ok (.istore_n 1, 1) := by decide +kernel
theorem dX10_hitsIn_2 : decode cX10_hitsIn 2 = .ok (.iconst 0, 1) := by decide +kernel
theorem dX10_hitsIn_3 : decode cX10_hitsIn 3 = .ok (.istore_n 2, 1) := by decide +kernel
theorem dX10_hitsIn_4 : decode cX10_hitsIn 4 = .ok (.iload_n 2, 1) := by decide +kernel
theorem dX10_hitsIn_5 : decode cX10_hitsIn 5 = .ok (.aload_n 0, 1) := by decide +kernel
theorem dX10_hitsIn_6 : decode cX10_hitsIn 6 = .ok (.getfield 120, 3) := by decide +kernel
theorem dX10_hitsIn_9 : decode cX10_hitsIn 9 = .ok (.if_icmp .ge 25, 3) := by decide +kernel
theorem dX10_hitsIn_12 : decode cX10_hitsIn 12 = .ok (.iload_n 1, 1) := by decide +kernel
theorem dX10_hitsIn_13 : decode cX10_hitsIn 13 = .ok (.aload_n 0, 1) := by decide +kernel
theorem dX10_hitsIn_14 : decode cX10_hitsIn 14 = .ok (.iload_n 2, 1) := by decide +kernel
theorem dX10_hitsIn_15 : decode cX10_hitsIn 15 = .ok (.invokevirtual 307, 3) := by decide +kernel
theorem dX10_hitsIn_18 : decode cX10_hitsIn 18 = .ok (.ifCond .eq 7, 3) := by decide +kernel
theorem dX10_hitsIn_21 : decode cX10_hitsIn 21 = .ok (.iconst 1, 1) := by decide +kernel
theorem dX10_hitsIn_22 : decode cX10_hitsIn 22 = .ok (.goto 4, 3) := by decide +kernel
theorem dX10_hitsIn_25 : decode cX10_hitsIn 25 = .ok (.iconst 0, 1) := by decide +kernel
theorem dX10_hitsIn_26 : decode cX10_hitsIn 26 = .ok (.iadd, 1) := by decide +kernel
theorem dX10_hitsIn_27 : decode cX10_hitsIn 27 = .ok (.istore_n 1, 1) := by decide +kernel
theorem dX10_hitsIn_28 : decode cX10_hitsIn 28 = .ok (.iinc 2 1, 3) := by decide +kernel
theorem dX10_hitsIn_31 : decode cX10_hitsIn 31 = .ok (.goto (-27), 3) := by decide +kernel
theorem dX10_hitsIn_34 : decode cX10_hitsIn 34 = .ok (.iload_n 1, 1) := by decide +kernel
theorem dX10_hitsIn_35 : decode cX10_hitsIn 35 = .ok (.ireturn, 1) := by decide +kernel
theorem dX10_hit_0 : decode cX10_hit 0 = .ok (.aload_n 0, 1) := by decide +kernel
theorem dX10_hit_1 : decode cX10_hit 1 = .ok (.iconst 0, 1) := by decide +kernel
theorem dX10_hit_2 : decode cX10_hit 2 = .ok (.putfield 1, 3) := by decide +kernel
theorem dX10_hit_5 : decode cX10_hit 5 = .ok (.iload_n 1, 1) := by decide +kernel
theorem dX10_hit_6 : decode cX10_hit 6 = .ok (.ifCond .ge 6, 3) := by decide +kernel
theorem dX10_hit_9 : decode cX10_hit 9 = .ok (.bipush (-3), 2) := by decide +kernel
theorem dX10_hit_11 : decode cX10_hit 11 = .ok (.ireturn, 1) := by decide +kernel
theorem dX10_hit_12 : decode cX10_hit 12 = .ok (.aload_n 0, 1) := by decide +kernel
theorem dX10_hit_13 : decode cX10_hit 13 = .ok (.getfield 221, 3) := by decide +kernel
theorem dX10_hit_16 : decode cX10_hit 16 = .ok (.ifCond .ne 6, 3) := by decide +kernel
theorem dX10_hit_19 : decode cX10_hit 19 = .ok (.bipush (-5), 2) := by decide +kernel
theorem dX10_hit_21 : decode cX10_hit 21 = .ok (.ireturn, 1) := by decide +kernel
theorem dX10_hit_22 : decode cX10_hit 22 = .ok (.aload_n 0, 1) := by decide +kernel
theorem dX10_hit_23 : decode cX10_hit 23 = .ok (.invokevirtual 224, 3) := by decide +kernel
theorem dX10_hit_26 : decode cX10_hit 26 = .ok (.iconst 0, 1) := by decide +kernel
theorem dX10_hit_27 : decode cX10_hit 27 = .ok (.istore_n 2, 1) := by decide +kernel
theorem dX10_hit_28 : decode cX10_hit 28 = .ok (.iconst 0, 1) := by decide +kernel
theorem dX10_hit_29 : decode cX10_hit 29 = .ok (.istore_n 3, 1) := by decide +kernel
theorem dX10_hit_30 : decode cX10_hit 30 = .ok (.iload_n 3, 1) := by decide +kernel
theorem dX10_hit_31 : decode cX10_hit 31 = .ok (.aload_n 0, 1) := by decide +kernel
theorem dX10_hit_32 : decode cX10_hit 32 = .ok (.getfield 120, 3) := by decide +kernel
theorem dX10_hit_35 : decode cX10_hit 35 = .ok (.if_icmp .ge 30, 3) := by decide +kernel
theorem dX10_hit_38 : decode cX10_hit 38 = .ok (.aload_n 0, 1) := by decide +kernel
theorem dX10_hit_39 : decode cX10_hit 39 = .ok (.iload_n 3, 1) := by decide +kernel
theorem dX10_hit_40 : decode cX10_hit 40 = .ok (.invokevirtual 307, 3) := by decide +kernel
theorem dX10_hit_43 : decode cX10_hit 43 = .ok (.ifCond .ne 6, 3) := by decide +kernel
theorem dX10_hit_46 : decode cX10_hit 46 = .ok (.goto 13, 3) := by decide +kernel
theorem dX10_hit_49 : decode cX10_hit 49 = .ok (.iload_n 2, 1) := by decide +kernel
theorem dX10_hit_50 : decode cX10_hit 50 = .ok (.iload_n 1, 1) := by decide +kernel
theorem dX10_hit_51 : decode cX10_hit 51 = .ok (.if_icmp .ne 5, 3) := by decide +kernel
theorem dX10_hit_54 : decode cX10_hit 54 = .ok (.iload_n 3, 1) := by decide +kernel
theorem dX10_hit_55 : decode cX10_hit 55 = .ok (.ireturn, 1) := by decide +kernel
theorem dX10_hit_56 : decode cX10_hit 56 = .ok (.iinc 2 1, 3) := by decide +kernel
theorem dX10_hit_59 : decode cX10_hit 59 = .ok (.iinc 3 1, 3) := by decide +kernel
theorem dX10_hit_62 : decode cX10_hit 62 = .ok (.goto (-32), 3) := by decide +kernel
theorem dX10_hit_65 : decode cX10_hit 65 = .ok (.iconst (-1), 1) := by decide +kernel
theorem dX10_hit_66 : decode cX10_hit 66 = .ok (.ireturn, 1) := by decide +kernel
theorem dX10_crossing_0 : decode cX10_crossing 0 = .ok (.iconst 0, 1) := by decide +kernel
theorem dX10_crossing_1 : decode cX10_crossing 1 = .ok (.istore_n 1, 1) := by decide +kernel
theorem dX10_crossing_2 : decode cX10_crossing 2 = .ok (.iconst 0, 1) := by decide +kernel
theorem dX10_crossing_3 : decode cX10_crossing 3 = .ok (.istore_n 2, 1) := by decide +kernel
theorem dX10_crossing_4 : decode cX10_crossing 4 = .ok (.iconst 0, 1) := by decide +kernel
theorem dX10_crossing_5 : decode cX10_crossing 5 = .ok (.istore_n 3, 1) := by decide +kernel
theorem dX10_crossing_6 : decode cX10_crossing 6 = .ok (.iload_n 3, 1) := by decide +kernel
theorem dX10_crossing_7 : decode cX10_crossing 7 = .ok (.aload_n 0, 1) := by decide +kernel
theorem dX10_crossing_8 : decode cX10_crossing 8 = .ok (.invokevirtual 123, 3) := by decide +kernel
theorem dX10_crossing_11 : decode cX10_crossing 11 = .ok (.if_icmp .ge 71, 3) := by decide +kernel
theorem dX10_crossing_14 : decode cX10_crossing 14 = .ok (.iload_n 2, 1) := by decide +kernel
theorem dX10_crossing_15 : decode cX10_crossing 15 = .ok (.aload_n 0, 1) := by decide +kernel
theorem dX10_crossing_16 : decode cX10_crossing 16 = .ok (.getfield 30, 3) := by decide +kernel
theorem dX10_crossing_19 : decode cX10_crossing 19 = .ok (.aload_n 0, 1) := by decide +kernel
theorem dX10_crossing_20 : decode cX10_crossing 20 = .ok (.iload_n 3, 1) := by decide +kernel
theorem dX10_crossing_21 : decode cX10_crossing 21 = .ok (.invokevirtual 127, 3) := by decide +kernel
theorem dX10_crossing_24 : decode cX10_crossing 24 = .ok (.iaload, 1) := by decide +kernel
theorem dX10_crossing_25 : decode cX10_crossing 25 = .ok (.iadd, 1) := by decide +kernel
theorem dX10_crossing_26 : decode cX10_crossing 26 = .ok (.istore 4, 2) := by decide +kernel
theorem dX10_crossing_28 : decode cX10_crossing 28 = .ok (.iload_n 2, 1) := by decide +kernel
theorem dX10_crossing_29 : decode cX10_crossing 29 = .ok (.istore 5, 2) := by decide +kernel
theorem dX10_crossing_31 : decode cX10_crossing 31 = .ok (.iload 5, 2) := by decide +kernel
theorem dX10_crossing_33 : decode cX10_crossing 33 = .ok (.iload 4, 2) := by decide +kernel
theorem dX10_crossing_35 : decode cX10_crossing 35 = .ok (.if_icmp .ge 38, 3) := by decide +kernel
theorem dX10_crossing_38 : decode cX10_crossing 38 = .ok (.iload_n 1, 1) := by decide +kernel
theorem dX10_crossing_39 : decode cX10_crossing 39 = .ok (.aload_n 0, 1) := by decide +kernel
theorem dX10_crossing_40 : decode cX10_crossing 40 = .ok (.iload 5, 2) := by decide +kernel
theorem dX10_crossing_42 : decode cX10_crossing 42 = .ok (.invokevirtual 307, 3) := by decide +kernel
theorem dX10_crossing_45 : decode cX10_crossing 45 = .ok (.ifCond .eq 19, 3) := by decide +kernel
theorem dX10_crossing_48 : decode cX10_crossing 48 = .ok (.iload 5, 2) := by decide +kernel
theorem dX10_crossing_50 : decode cX10_crossing 50 = .ok (.aload_n 0, 1) := by decide +kernel
theorem dX10_crossing_51 : decode cX10_crossing 51 = .ok (.getfield 221, 3) := by decide +kernel
theorem dX10_crossing_54 : decode cX10_crossing 54 = .ok (.iadd, 1) := by decide +kernel
theorem dX10_crossing_55 : decode cX10_crossing 55 = .ok (.iload 4, 2) := by decide +kernel
theorem dX10_crossing_57 : decode cX10_crossing 57 = .ok (.if_icmp .le 7, 3) := by decide +kernel
theorem dX10_crossing_60 : decode cX10_crossing 60 = .ok (.iconst 1, 1) := by decide +kernel
theorem dX10_crossing_61 : decode cX10_crossing 61 = .ok (.goto 4, 3) := by decide +kernel
theorem dX10_crossing_64 : decode cX10_crossing 64 = .ok (.iconst 0, 1) := by decide +kernel
theorem dX10_crossing_65 : decode cX10_crossing 65 = .ok (.iadd, 1) := by decide +kernel
theorem dX10_crossing_66 : decode cX10_crossing 66 = .ok (.istore_n 1, 1) := by decide +kernel
theorem dX10_crossing_67 : decode cX10_crossing 67 = .ok (.iinc 5 1, 3) := by decide +kernel
theorem dX10_crossing_70 : decode cX10_crossing 70 = .ok (.goto (-39), 3) := by decide +kernel
theorem dX10_crossing_73 : decode cX10_crossing 73 = .ok (.iload 4, 2) := by decide +kernel
theorem dX10_crossing_75 : decode cX10_crossing 75 = .ok (.istore_n 2, 1) := by decide +kernel
theorem dX10_crossing_76 : decode cX10_crossing 76 = .ok (.iinc 3 1, 3) := by decide +kernel
theorem dX10_crossing_79 : decode cX10_crossing 79 = .ok (.goto (-73), 3) := by decide +kernel
theorem dX10_crossing_82 : decode cX10_crossing 82 = .ok (.iload_n 1, 1) := by decide +kernel
theorem dX10_crossing_83 : decode cX10_crossing 83 = .ok (.ireturn, 1) := by decide +kernel
theorem dX10_hits_0 : decode cX10_hits 0 = .ok (.aload_n 0, 1) := by decide +kernel
theorem dX10_hits_1 : decode cX10_hits 1 = .ok (.iconst 0, 1) := by decide +kernel
theorem dX10_hits_2 : decode cX10_hits 2 = .ok (.putfield 1, 3) := by decide +kernel
theorem dX10_hits_5 : decode cX10_hits 5 = .ok (.iload_n 1, 1) := by decide +kernel
theorem dX10_hits_6 : decode cX10_hits 6 = .ok (.i2l, 1) := by decide +kernel
theorem dX10_hits_7 : decode cX10_hits 7 = .ok (.lconst 0, 1) := by decide +kernel
theorem dX10_hits_8 : decode cX10_hits 8 = .ok (.ldc2_w 286, 3) := by decide +kernel
theorem dX10_hits_11 : decode cX10_hits 11 = .ok (.invokestatic 98, 3) := by decide +kernel
theorem dX10_hits_14 : decode cX10_hits 14 = .ok (.ifCond .ne 6, 3) := by decide +kernel
theorem dX10_hits_17 : decode cX10_hits 17 = .ok (.bipush (-2), 2) := by decide +kernel
theorem dX10_hits_19 : decode cX10_hits 19 = .ok (.ireturn, 1) := by decide +kernel
theorem dX10_hits_20 : decode cX10_hits 20 = .ok (.iload_n 1, 1) := by decide +kernel
theorem dX10_hits_21 : decode cX10_hits 21 = .ok (.iconst 2, 1) := by decide +kernel
theorem dX10_hits_22 : decode cX10_hits 22 = .ok (.if_icmp .ne 8, 3) := by decide +kernel
theorem dX10_hits_25 : decode cX10_hits 25 = .ok (.aload_n 0, 1) := by decide +kernel
theorem dX10_hits_26 : decode cX10_hits 26 = .ok (.getfield 221, 3) := by decide +kernel
theorem dX10_hits_29 : decode cX10_hits 29 = .ok (.ireturn, 1) := by decide +kernel
theorem dX10_hits_30 : decode cX10_hits 30 = .ok (.aload_n 0, 1) := by decide +kernel
theorem dX10_hits_31 : decode cX10_hits 31 = .ok (.getfield 221, 3) := by decide +kernel
theorem dX10_hits_34 : decode cX10_hits 34 = .ok (.ifCond .ne 6, 3) := by decide +kernel
theorem dX10_hits_37 : decode cX10_hits 37 = .ok (.bipush (-5), 2) := by decide +kernel
theorem dX10_hits_39 : decode cX10_hits 39 = .ok (.ireturn, 1) := by decide +kernel
theorem dX10_hits_40 : decode cX10_hits 40 = .ok (.aload_n 0, 1) := by decide +kernel
theorem dX10_hits_41 : decode cX10_hits 41 = .ok (.invokevirtual 134, 3) := by decide +kernel
theorem dX10_hits_44 : decode cX10_hits 44 = .ok (.aload_n 0, 1) := by decide +kernel
theorem dX10_hits_45 : decode cX10_hits 45 = .ok (.invokevirtual 224, 3) := by decide +kernel
theorem dX10_hits_48 : decode cX10_hits 48 = .ok (.iload_n 1, 1) := by decide +kernel
theorem dX10_hits_49 : decode cX10_hits 49 = .ok (.ifCond .ne 10, 3) := by decide +kernel
theorem dX10_hits_52 : decode cX10_hits 52 = .ok (.aload_n 0, 1) := by decide +kernel
theorem dX10_hits_53 : decode cX10_hits 53 = .ok (.invokevirtual 227, 3) := by decide +kernel
theorem dX10_hits_56 : decode cX10_hits 56 = .ok (.goto 7, 3) := by decide +kernel
theorem dX10_hits_59 : decode cX10_hits 59 = .ok (.aload_n 0, 1) := by decide +kernel
theorem dX10_hits_60 : decode cX10_hits 60 = .ok (.invokevirtual 310, 3) := by decide +kernel
theorem dX10_hits_63 : decode cX10_hits 63 = .ok (.ireturn, 1) := by decide +kernel
theorem dX10_gainOf_0 : decode cX10_gainOf 0 = .ok (.aload_n 0, 1) := by decide +kernel
theorem dX10_gainOf_1 : decode cX10_gainOf 1 = .ok (.iload_n 1, 1) := by decide +kernel
theorem dX10_gainOf_2 : decode cX10_gainOf 2 = .ok (.iload_n 2, 1) := by decide +kernel
theorem dX10_gainOf_3 : decode cX10_gainOf 3 = .ok (.invokevirtual 249, 3) := by decide +kernel
theorem dX10_gainOf_6 : decode cX10_gainOf 6 = .ok (.aload_n 0, 1) := by decide +kernel
theorem dX10_gainOf_7 : decode cX10_gainOf 7 = .ok (.iload_n 1, 1) := by decide +kernel
theorem dX10_gainOf_8 : decode cX10_gainOf 8 = .ok (.iload_n 2, 1) := by decide +kernel
theorem dX10_gainOf_9 : decode cX10_gainOf 9 = .ok (.invokevirtual 230, 3) := by decide +kernel
theorem dX10_gainOf_12 : decode cX10_gainOf 12 = .ok (.iconst (-1), 1) := by decide +kernel
theorem dX10_gainOf_13 : decode cX10_gainOf 13 = .ok (.if_icmp .ne 7, 3) := by decide +kernel
theorem dX10_gainOf_16 : decode cX10_gainOf 16 = .ok (.iconst 2, 1) := by decide +kernel
theorem dX10_gainOf_17 : decode cX10_gainOf 17 = .ok (.goto 4, 3) := by decide +kernel
theorem dX10_gainOf_20 : decode cX10_gainOf 20 = .ok (.iconst 0, 1) := by decide +kernel
theorem dX10_gainOf_21 : decode cX10_gainOf 21 = .ok (.isub, 1) := by decide +kernel
theorem dX10_gainOf_22 : decode cX10_gainOf 22 = .ok (.ireturn, 1) := by decide +kernel
theorem dX10_gain_0 : decode cX10_gain 0 = .ok (.aload_n 0, 1) := by decide +kernel
theorem dX10_gain_1 : decode cX10_gain 1 = .ok (.iconst 0, 1) := by decide +kernel
theorem dX10_gain_2 : decode cX10_gain 2 = .ok (.putfield 1, 3) := by decide +kernel
theorem dX10_gain_5 : decode cX10_gain 5 = .ok (.aload_n 0, 1) := by decide +kernel
theorem dX10_gain_6 : decode cX10_gain 6 = .ok (.iload_n 1, 1) := by decide +kernel
theorem dX10_gain_7 : decode cX10_gain 7 = .ok (.invokevirtual 210, 3) := by decide +kernel
theorem dX10_gain_10 : decode cX10_gain 10 = .ok (.ifCond .eq 11, 3) := by decide +kernel
theorem dX10_gain_13 : decode cX10_gain 13 = .ok (.aload_n 0, 1) := by decide +kernel
theorem dX10_gain_14 : decode cX10_gain 14 = .ok (.iload_n 2, 1) := by decide +kernel
theorem dX10_gain_15 : decode cX10_gain 15 = .ok (.invokevirtual 210, 3) := by decide +kernel
theorem dX10_gain_18 : decode cX10_gain 18 = .ok (.ifCond .ne 6, 3) := by decide +kernel
theorem dX10_gain_21 : decode cX10_gain 21 = .ok (.bipush (-2), 2) := by decide +kernel
theorem dX10_gain_23 : decode cX10_gain 23 = .ok (.ireturn, 1) := by decide +kernel
theorem dX10_gain_24 : decode cX10_gain 24 = .ok (.aload_n 0, 1) := by decide +kernel
theorem dX10_gain_25 : decode cX10_gain 25 = .ok (.iload_n 1, 1) := by decide +kernel
theorem dX10_gain_26 : decode cX10_gain 26 = .ok (.iload_n 2, 1) := by decide +kernel
theorem dX10_gain_27 : decode cX10_gain 27 = .ok (.invokevirtual 249, 3) := by decide +kernel
theorem dX10_gain_30 : decode cX10_gain 30 = .ok (.ifCond .ne 8, 3) := by decide +kernel
theorem dX10_gain_33 : decode cX10_gain 33 = .ok (.bipush (-5), 2) := by decide +kernel
theorem dX10_gain_35 : decode cX10_gain 35 = .ok (.goto 9, 3) := by decide +kernel
theorem dX10_gain_38 : decode cX10_gain 38 = .ok (.aload_n 0, 1) := by decide +kernel
theorem dX10_gain_39 : decode cX10_gain 39 = .ok (.iload_n 1, 1) := by decide +kernel
theorem dX10_gain_40 : decode cX10_gain 40 = .ok (.iload_n 2, 1) := by decide +kernel
theorem dX10_gain_41 : decode cX10_gain 41 = .ok (.invokevirtual 313, 3) := by decide +kernel
theorem dX10_gain_44 : decode cX10_gain 44 = .ok (.ireturn, 1) := by decide +kernel
theorem dX10_leastBehind_0 : decode cX10_leastBehind 0 = .ok (.aload_n 0, 1) := by decide +kernel
theorem dX10_leastBehind_1 : decode cX10_leastBehind 1 = .ok (.invokevirtual 264, 3) := by decide +kernel
theorem dX10_leastBehind_4 : decode cX10_leastBehind 4 = .ok (.istore_n 2, 1) := by decide +kernel
theorem dX10_leastBehind_5 : decode cX10_leastBehind 5 = .ok (.iload_n 1, 1) := by decide +kernel
theorem dX10_leastBehind_6 : decode cX10_leastBehind 6 = .ok (.ifCond .ne 5, 3) := by decide +kernel
theorem dX10_leastBehind_9 : decode cX10_leastBehind 9 = .ok (.iload_n 2, 1) := by decide +kernel
theorem dX10_leastBehind_10 : decode cX10_leastBehind 10 = .ok (.ireturn, 1) := by decide +kernel
theorem dX10_leastBehind_11 : decode cX10_leastBehind 11 = .ok (.aload_n 0, 1) := by decide +kernel
theorem dX10_leastBehind_12 : decode cX10_leastBehind 12 = .ok (.getfield 13, 3) := by decide +kernel
theorem dX10_leastBehind_15 : decode cX10_leastBehind 15 = .ok (.iconst 0, 1) := by decide +kernel
theorem dX10_leastBehind_16 : decode cX10_leastBehind 16 = .ok (.aload_n 0, 1) := by decide +kernel
theorem dX10_leastBehind_17 : decode cX10_leastBehind 17 = .ok (.getfield 23, 3) := by decide +kernel
theorem dX10_leastBehind_20 : decode cX10_leastBehind 20 = .ok (.sipush 1021, 3) := by decide +kernel
theorem dX10_leastBehind_23 : decode cX10_leastBehind 23 = .ok (.iload_n 1, 1) := by decide +kernel
theorem dX10_leastBehind_24 : decode cX10_leastBehind 24 = .ok (.imul, 1) := by decide +kernel
theorem dX10_leastBehind_25 : decode cX10_leastBehind 25 = .ok (.sipush 1021, 3) := by decide +kernel
theorem dX10_leastBehind_28 : decode cX10_leastBehind 28 = .ok (.invokestatic 88, 3) := by decide +kernel
theorem dX10_leastBehind_31 : decode cX10_leastBehind 31 = .ok (.iconst 0, 1) := by decide +kernel
theorem dX10_leastBehind_32 : decode cX10_leastBehind 32 = .ok (.istore_n 3, 1) := by decide +kernel
theorem dX10_leastBehind_33 : decode cX10_leastBehind 33 = .ok (.iload_n 3, 1) := by decide +kernel
theorem dX10_leastBehind_34 : decode cX10_leastBehind 34 = .ok (.iconst 1, 1) := by decide +kernel
theorem dX10_leastBehind_35 : decode cX10_leastBehind 35 = .ok (.iadd, 1) := by decide +kernel
theorem dX10_leastBehind_36 : decode cX10_leastBehind 36 = .ok (.aload_n 0, 1) := by decide +kernel
theorem dX10_leastBehind_37 : decode cX10_leastBehind 37 = .ok (.invokevirtual 123, 3) := by decide +kernel
theorem dX10_leastBehind_40 : decode cX10_leastBehind 40 = .ok (.if_icmp .ge 89, 3) := by decide +kernel
theorem dX10_leastBehind_43 : decode cX10_leastBehind 43 = .ok (.aload_n 0, 1) := by decide +kernel
theorem dX10_leastBehind_44 : decode cX10_leastBehind 44 = .ok (.iload_n 3, 1) := by decide +kernel
theorem dX10_leastBehind_45 : decode cX10_leastBehind 45 = .ok (.invokevirtual 127, 3) := by decide +kernel
theorem dX10_leastBehind_48 : decode cX10_leastBehind 48 = .ok (.istore 4, 2) := by decide +kernel
theorem dX10_leastBehind_50 : decode cX10_leastBehind 50 = .ok (.aload_n 0, 1) := by decide +kernel
theorem dX10_leastBehind_51 : decode cX10_leastBehind 51 = .ok (.iload_n 3, 1) := by decide +kernel
theorem dX10_leastBehind_52 : decode cX10_leastBehind 52 = .ok (.iconst 1, 1) := by decide +kernel
theorem dX10_leastBehind_53 : decode cX10_leastBehind 53 = .ok (.iadd, 1) := by decide +kernel
theorem dX10_leastBehind_54 : decode cX10_leastBehind 54 = .ok (.invokevirtual 127, 3) := by decide +kernel
theorem dX10_leastBehind_57 : decode cX10_leastBehind 57 = .ok (.istore 5, 2) := by decide +kernel
theorem dX10_leastBehind_59 : decode cX10_leastBehind 59 = .ok (.aload_n 0, 1) := by decide +kernel
theorem dX10_leastBehind_60 : decode cX10_leastBehind 60 = .ok (.iload_n 3, 1) := by decide +kernel
theorem dX10_leastBehind_61 : decode cX10_leastBehind 61 = .ok (.invokevirtual 316, 3) := by decide +kernel
theorem dX10_leastBehind_64 : decode cX10_leastBehind 64 = .ok (.ifCond .eq 59, 3) := by decide +kernel
theorem dX10_leastBehind_67 : decode cX10_leastBehind 67 = .ok (.aload_n 0, 1) := by decide +kernel
theorem dX10_leastBehind_68 : decode cX10_leastBehind 68 = .ok (.iload 4, 2) := by decide +kernel
theorem dX10_leastBehind_70 : decode cX10_leastBehind 70 = .ok (.iload 5, 2) := by decide +kernel
theorem dX10_leastBehind_72 : decode cX10_leastBehind 72 = .ok (.invokevirtual 242, 3) := by decide +kernel
theorem dX10_leastBehind_75 : decode cX10_leastBehind 75 = .ok (.ifCond .ne 6, 3) := by decide +kernel
theorem dX10_leastBehind_78 : decode cX10_leastBehind 78 = .ok (.goto 45, 3) := by decide +kernel
theorem dX10_leastBehind_81 : decode cX10_leastBehind 81 = .ok (.aload_n 0, 1) := by decide +kernel
theorem dX10_leastBehind_82 : decode cX10_leastBehind 82 = .ok (.iload 4, 2) := by decide +kernel
theorem dX10_leastBehind_84 : decode cX10_leastBehind 84 = .ok (.iload 5, 2) := by decide +kernel
theorem dX10_leastBehind_86 : decode cX10_leastBehind 86 = .ok (.invokevirtual 246, 3) := by decide +kernel
theorem dX10_leastBehind_89 : decode cX10_leastBehind 89 = .ok (.istore 6, 2) := by decide +kernel
theorem dX10_leastBehind_91 : decode cX10_leastBehind 91 = .ok (.iload_n 2, 1) := by decide +kernel
theorem dX10_leastBehind_92 : decode cX10_leastBehind 92 = .ok (.aload_n 0, 1) := by decide +kernel
theorem dX10_leastBehind_93 : decode cX10_leastBehind 93 = .ok (.iload_n 1, 1) := by decide +kernel
theorem dX10_leastBehind_94 : decode cX10_leastBehind 94 = .ok (.iconst 1, 1) := by decide +kernel
theorem dX10_leastBehind_95 : decode cX10_leastBehind 95 = .ok (.isub, 1) := by decide +kernel
theorem dX10_leastBehind_96 : decode cX10_leastBehind 96 = .ok (.invokevirtual 319, 3) := by decide +kernel
theorem dX10_leastBehind_99 : decode cX10_leastBehind 99 = .ok (.invokestatic 204, 3) := by decide +kernel
theorem dX10_leastBehind_102 : decode cX10_leastBehind 102 = .ok (.istore_n 2, 1) := by decide +kernel
theorem dX10_leastBehind_103 : decode cX10_leastBehind 103 = .ok (.aload_n 0, 1) := by decide +kernel
theorem dX10_leastBehind_104 : decode cX10_leastBehind 104 = .ok (.getfield 23, 3) := by decide +kernel
theorem dX10_leastBehind_107 : decode cX10_leastBehind 107 = .ok (.sipush 1021, 3) := by decide +kernel
theorem dX10_leastBehind_110 : decode cX10_leastBehind 110 = .ok (.iload_n 1, 1) := by decide +kernel
theorem dX10_leastBehind_111 : decode cX10_leastBehind 111 = .ok (.imul, 1) := by decide +kernel
theorem dX10_leastBehind_112 : decode cX10_leastBehind 112 = .ok (.aload_n 0, 1) := by decide +kernel
theorem dX10_leastBehind_113 : decode cX10_leastBehind 113 = .ok (.getfield 13, 3) := by decide +kernel
theorem dX10_leastBehind_116 : decode cX10_leastBehind 116 = .ok (.iconst 0, 1) := by decide +kernel
theorem dX10_leastBehind_117 : decode cX10_leastBehind 117 = .ok (.sipush 1021, 3) := by decide +kernel
theorem dX10_leastBehind_120 : decode cX10_leastBehind 120 = .ok (.invokestatic 88, 3) := by decide +kernel
theorem dX10_leastBehind_123 : decode cX10_leastBehind 123 = .ok (.iinc 3 1, 3) := by decide +kernel
theorem dX10_leastBehind_126 : decode cX10_leastBehind 126 = .ok (.goto (-93), 3) := by decide +kernel
theorem dX10_leastBehind_129 : decode cX10_leastBehind 129 = .ok (.iload_n 2, 1) := by decide +kernel
theorem dX10_leastBehind_130 : decode cX10_leastBehind 130 = .ok (.ireturn, 1) := by decide +kernel
theorem dX10_isFirst_0 : decode cX10_isFirst 0 = .ok (.iconst 0, 1) := by decide +kernel
theorem dX10_isFirst_1 : decode cX10_isFirst 1 = .ok (.istore_n 2, 1) := by decide +kernel
theorem dX10_isFirst_2 : decode cX10_isFirst 2 = .ok (.iload_n 2, 1) := by decide +kernel
theorem dX10_isFirst_3 : decode cX10_isFirst 3 = .ok (.iload_n 1, 1) := by decide +kernel
theorem dX10_isFirst_4 : decode cX10_isFirst 4 = .ok (.if_icmp .ge 41, 3) := by decide +kernel
theorem dX10_isFirst_7 : decode cX10_isFirst 7 = .ok (.aload_n 0, 1) := by decide +kernel
theorem dX10_isFirst_8 : decode cX10_isFirst 8 = .ok (.iload_n 2, 1) := by decide +kernel
theorem dX10_isFirst_9 : decode cX10_isFirst 9 = .ok (.invokevirtual 127, 3) := by decide +kernel
theorem dX10_isFirst_12 : decode cX10_isFirst 12 = .ok (.aload_n 0, 1) := by decide +kernel
theorem dX10_isFirst_13 : decode cX10_isFirst 13 = .ok (.iload_n 1, 1) := by decide +kernel
theorem dX10_isFirst_14 : decode cX10_isFirst 14 = .ok (.invokevirtual 127, 3) := by decide +kernel
theorem dX10_isFirst_17 : decode cX10_isFirst 17 = .ok (.if_icmp .ne 22, 3) := by decide +kernel
theorem dX10_isFirst_20 : decode cX10_isFirst 20 = .ok (.aload_n 0, 1) := by decide +kernel
theorem dX10_isFirst_21 : decode cX10_isFirst 21 = .ok (.iload_n 2, 1) := by decide +kernel
theorem dX10_isFirst_22 : decode cX10_isFirst 22 = .ok (.iconst 1, 1) := by decide +kernel
theorem dX10_isFirst_23 : decode cX10_isFirst 23 = .ok (.iadd, 1) := by decide +kernel
theorem dX10_isFirst_24 : decode cX10_isFirst 24 = .ok (.invokevirtual 127, 3) := by decide +kernel
theorem dX10_isFirst_27 : decode cX10_isFirst 27 = .ok (.aload_n 0, 1) := by decide +kernel
theorem dX10_isFirst_28 : decode cX10_isFirst 28 = .ok (.iload_n 1, 1) := by decide +kernel
theorem dX10_isFirst_29 : decode cX10_isFirst 29 = .ok (.iconst 1, 1) := by decide +kernel
theorem dX10_isFirst_30 : decode cX10_isFirst 30 = .ok (.iadd, 1) := by decide +kernel
theorem dX10_isFirst_31 : decode cX10_isFirst 31 = .ok (.invokevirtual 127, 3) := by decide +kernel
theorem dX10_isFirst_34 : decode cX10_isFirst 34 = .ok (.if_icmp .ne 5, 3) := by decide +kernel
theorem dX10_isFirst_37 : decode cX10_isFirst 37 = .ok (.iconst 0, 1) := by decide +kernel
theorem dX10_isFirst_38 : decode cX10_isFirst 38 = .ok (.ireturn, 1) := by decide +kernel
theorem dX10_isFirst_39 : decode cX10_isFirst 39 = .ok (.iinc 2 1, 3) := by decide +kernel
theorem dX10_isFirst_42 : decode cX10_isFirst 42 = .ok (.goto (-40), 3) := by decide +kernel
theorem dX10_isFirst_45 : decode cX10_isFirst 45 = .ok (.iconst 1, 1) := by decide +kernel
theorem dX10_isFirst_46 : decode cX10_isFirst 46 = .ok (.ireturn, 1) := by decide +kernel
theorem dX10_best_0 : decode cX10_best 0 = .ok (.aload_n 0, 1) := by decide +kernel
theorem dX10_best_1 : decode cX10_best 1 = .ok (.iconst 0, 1) := by decide +kernel
theorem dX10_best_2 : decode cX10_best 2 = .ok (.putfield 1, 3) := by decide +kernel
theorem dX10_best_5 : decode cX10_best 5 = .ok (.iload_n 1, 1) := by decide +kernel
theorem dX10_best_6 : decode cX10_best 6 = .ok (.i2l, 1) := by decide +kernel
theorem dX10_best_7 : decode cX10_best 7 = .ok (.lconst 0, 1) := by decide +kernel
theorem dX10_best_8 : decode cX10_best 8 = .ok (.ldc2_w 286, 3) := by decide +kernel
theorem dX10_best_11 : decode cX10_best 11 = .ok (.invokestatic 98, 3) := by decide +kernel
theorem dX10_best_14 : decode cX10_best 14 = .ok (.ifCond .eq 11, 3) := by decide +kernel
theorem dX10_best_17 : decode cX10_best 17 = .ok (.aload_n 0, 1) := by decide +kernel
theorem dX10_best_18 : decode cX10_best 18 = .ok (.iload_n 1, 1) := by decide +kernel
theorem dX10_best_19 : decode cX10_best 19 = .ok (.invokevirtual 319, 3) := by decide +kernel
theorem dX10_best_22 : decode cX10_best 22 = .ok (.goto 5, 3) := by decide +kernel
theorem dX10_best_25 : decode cX10_best 25 = .ok (.bipush (-3), 2) := by decide +kernel
theorem dX10_best_27 : decode cX10_best 27 = .ok (.ireturn, 1) := by decide +kernel
theorem dX10_bitsOf_0 : decode cX10_bitsOf 0 = .ok (.fload_n 0, 1) := by decide +kernel
theorem dX10_bitsOf_1 : decode cX10_bitsOf 1 = .ok (.fconst 0, 1) := by decide +kernel
theorem dX10_bitsOf_2 : decode cX10_bitsOf 2 = .ok (.fcmp .l, 1) := by decide +kernel
theorem dX10_bitsOf_3 : decode cX10_bitsOf 3 = .ok (.ifCond .ne 5, 3) := by decide +kernel
theorem dX10_bitsOf_6 : decode cX10_bitsOf 6 = .ok (.iconst 0, 1) := by decide +kernel
theorem dX10_bitsOf_7 : decode cX10_bitsOf 7 = .ok (.ireturn, 1) := by decide +kernel
theorem dX10_bitsOf_8 : decode cX10_bitsOf 8 = .ok (.fload_n 0, 1) := by decide +kernel
theorem dX10_bitsOf_9 : decode cX10_bitsOf 9 = .ok (.fstore_n 1, 1) := by decide +kernel
theorem dX10_bitsOf_10 : decode cX10_bitsOf 10 = .ok (.bipush 127, 2) := by decide +kernel
theorem dX10_bitsOf_12 : decode cX10_bitsOf 12 = .ok (.istore_n 2, 1) := by decide +kernel
theorem dX10_bitsOf_13 : decode cX10_bitsOf 13 = .ok (.fload_n 1, 1) := by decide +kernel
theorem dX10_bitsOf_14 : decode cX10_bitsOf 14 = .ok (.fconst 2, 1) := by decide +kernel
theorem dX10_bitsOf_15 : decode cX10_bitsOf 15 = .ok (.fcmp .l, 1) := by decide +kernel
theorem dX10_bitsOf_16 : decode cX10_bitsOf 16 = .ok (.ifCond .lt 15, 3) := by decide +kernel
theorem dX10_bitsOf_19 : decode cX10_bitsOf 19 = .ok (.fload_n 1, 1) := by decide +kernel
theorem dX10_bitsOf_20 : decode cX10_bitsOf 20 = .ok (.ldc_w 322, 3) := by decide +kernel
theorem dX10_bitsOf_23 : decode cX10_bitsOf 23 = .ok (.fmul, 1) := by decide +kernel
theorem dX10_bitsOf_24 : decode cX10_bitsOf 24 = .ok (.fstore_n 1, 1) := by decide +kernel
theorem dX10_bitsOf_25 : decode cX10_bitsOf 25 = .ok (.iinc 2 1, 3) := by decide +kernel
theorem dX10_bitsOf_28 : decode cX10_bitsOf 28 = .ok (.goto (-15), 3) := by decide +kernel
theorem dX10_bitsOf_31 : decode cX10_bitsOf 31 = .ok (.fload_n 1, 1) := by decide +kernel
theorem dX10_bitsOf_32 : decode cX10_bitsOf 32 = .ok (.fconst 1, 1) := by decide +kernel
theorem dX10_bitsOf_33 : decode cX10_bitsOf 33 = .ok (.fcmp .g, 1) := by decide +kernel
theorem dX10_bitsOf_34 : decode cX10_bitsOf 34 = .ok (.ifCond .ge 13, 3) := by decide +kernel
theorem dX10_bitsOf_37 : decode cX10_bitsOf 37 = .ok (.fload_n 1, 1) := by decide +kernel
theorem dX10_bitsOf_38 : decode cX10_bitsOf 38 = .ok (.fconst 2, 1) := by decide +kernel
theorem dX10_bitsOf_39 : decode cX10_bitsOf 39 = .ok (.fmul, 1) := by decide +kernel
theorem dX10_bitsOf_40 : decode cX10_bitsOf 40 = .ok (.fstore_n 1, 1) := by decide +kernel
theorem dX10_bitsOf_41 : decode cX10_bitsOf 41 = .ok (.iinc 2 (-1), 3) := by decide +kernel
theorem dX10_bitsOf_44 : decode cX10_bitsOf 44 = .ok (.goto (-13), 3) := by decide +kernel
theorem dX10_bitsOf_47 : decode cX10_bitsOf 47 = .ok (.iload_n 2, 1) := by decide +kernel
theorem dX10_bitsOf_48 : decode cX10_bitsOf 48 = .ok (.bipush 23, 2) := by decide +kernel
theorem dX10_bitsOf_50 : decode cX10_bitsOf 50 = .ok (.ishl, 1) := by decide +kernel
theorem dX10_bitsOf_51 : decode cX10_bitsOf 51 = .ok (.fload_n 1, 1) := by decide +kernel
theorem dX10_bitsOf_52 : decode cX10_bitsOf 52 = .ok (.fconst 1, 1) := by decide +kernel
theorem dX10_bitsOf_53 : decode cX10_bitsOf 53 = .ok (.fsub, 1) := by decide +kernel
theorem dX10_bitsOf_54 : decode cX10_bitsOf 54 = .ok (.ldc_w 323, 3) := by decide +kernel
theorem dX10_bitsOf_57 : decode cX10_bitsOf 57 = .ok (.fmul, 1) := by decide +kernel
theorem dX10_bitsOf_58 : decode cX10_bitsOf 58 = .ok (.f2i, 1) := by decide +kernel
theorem dX10_bitsOf_59 : decode cX10_bitsOf 59 = .ok (.iadd, 1) := by decide +kernel
theorem dX10_bitsOf_60 : decode cX10_bitsOf 60 = .ok (.ireturn, 1) := by decide +kernel
theorem dX10_floatOf_0 : decode cX10_floatOf 0 = .ok (.aload_n 0, 1) := by decide +kernel
theorem dX10_floatOf_1 : decode cX10_floatOf 1 = .ok (.invokevirtual 134, 3) := by decide +kernel
theorem dX10_floatOf_4 : decode cX10_floatOf 4 = .ok (.aload_n 0, 1) := by decide +kernel
theorem dX10_floatOf_5 : decode cX10_floatOf 5 = .ok (.invokevirtual 224, 3) := by decide +kernel
theorem dX10_floatOf_8 : decode cX10_floatOf 8 = .ok (.aload_n 0, 1) := by decide +kernel
theorem dX10_floatOf_9 : decode cX10_floatOf 9 = .ok (.getfield 120, 3) := by decide +kernel
theorem dX10_floatOf_12 : decode cX10_floatOf 12 = .ok (.ifCond .ne 5, 3) := by decide +kernel
theorem dX10_floatOf_15 : decode cX10_floatOf 15 = .ok (.fconst 0, 1) := by decide +kernel
theorem dX10_floatOf_16 : decode cX10_floatOf 16 = .ok (.freturn, 1) := by decide +kernel
theorem dX10_floatOf_17 : decode cX10_floatOf 17 = .ok (.iload_n 1, 1) := by decide +kernel
theorem dX10_floatOf_18 : decode cX10_floatOf 18 = .ok (.ifCond .ne 15, 3) := by decide +kernel
theorem dX10_floatOf_21 : decode cX10_floatOf 21 = .ok (.aload_n 0, 1) := by decide +kernel
theorem dX10_floatOf_22 : decode cX10_floatOf 22 = .ok (.invokevirtual 264, 3) := by decide +kernel
theorem dX10_floatOf_25 : decode cX10_floatOf 25 = .ok (.i2f, 1) := by decide +kernel
theorem dX10_floatOf_26 : decode cX10_floatOf 26 = .ok (.aload_n 0, 1) := by decide +kernel
theorem dX10_floatOf_27 : decode cX10_floatOf 27 = .ok (.getfield 120, 3) := by decide +kernel
theorem dX10_floatOf_30 : decode cX10_floatOf 30 = .ok (.i2f, 1) := by decide +kernel
theorem dX10_floatOf_31 : decode cX10_floatOf 31 = .ok (.fdiv, 1) := by decide +kernel
theorem dX10_floatOf_32 : decode cX10_floatOf 32 = .ok (.freturn, 1) := by decide +kernel
theorem dX10_floatOf_33 : decode cX10_floatOf 33 = .ok (.iload_n 1, 1) := by decide +kernel
theorem dX10_floatOf_34 : decode cX10_floatOf 34 = .ok (.iconst 1, 1) := by decide +kernel
theorem dX10_floatOf_35 : decode cX10_floatOf 35 = .ok (.if_icmp .ne 39, 3) := by decide +kernel
theorem dX10_floatOf_38 : decode cX10_floatOf 38 = .ok (.iconst 0, 1) := by decide +kernel
theorem dX10_floatOf_39 : decode cX10_floatOf 39 = .ok (.istore_n 2, 1) := by decide +kernel
theorem dX10_floatOf_40 : decode cX10_floatOf 40 = .ok (.iconst 0, 1) := by decide +kernel
theorem dX10_floatOf_41 : decode cX10_floatOf 41 = .ok (.istore_n 3, 1) := by decide +kernel
theorem dX10_floatOf_42 : decode cX10_floatOf 42 = .ok (.iload_n 3, 1) := by decide +kernel
theorem dX10_floatOf_43 : decode cX10_floatOf 43 = .ok (.aload_n 0, 1) := by decide +kernel
theorem dX10_floatOf_44 : decode cX10_floatOf 44 = .ok (.getfield 120, 3) := by decide +kernel
theorem dX10_floatOf_47 : decode cX10_floatOf 47 = .ok (.if_icmp .ge 18, 3) := by decide +kernel
theorem dX10_floatOf_50 : decode cX10_floatOf 50 = .ok (.iload_n 2, 1) := by decide +kernel
theorem dX10_floatOf_51 : decode cX10_floatOf 51 = .ok (.aload_n 0, 1) := by decide +kernel
theorem dX10_floatOf_52 : decode cX10_floatOf 52 = .ok (.getfield 39, 3) := by decide +kernel
theorem dX10_floatOf_55 : decode cX10_floatOf 55 = .ok (.iload_n 3, 1) := by decide +kernel
theorem dX10_floatOf_56 : decode cX10_floatOf 56 = .ok (.iaload, 1) := by decide +kernel
theorem dX10_floatOf_57 : decode cX10_floatOf 57 = .ok (.iadd, 1) := by decide +kernel
theorem dX10_floatOf_58 : decode cX10_floatOf 58 = .ok (.istore_n 2, 1) := by decide +kernel
theorem dX10_floatOf_59 : decode cX10_floatOf 59 = .ok (.iinc 3 1, 3) := by decide +kernel
theorem dX10_floatOf_62 : decode cX10_floatOf 62 = .ok (.goto (-20), 3) := by decide +kernel
theorem dX10_floatOf_65 : decode cX10_floatOf 65 = .ok (.iload_n 2, 1) := by decide +kernel
theorem dX10_floatOf_66 : decode cX10_floatOf 66 = .ok (.i2f, 1) := by decide +kernel
theorem dX10_floatOf_67 : decode cX10_floatOf 67 = .ok (.aload_n 0, 1) := by decide +kernel
theorem dX10_floatOf_68 : decode cX10_floatOf 68 = .ok (.getfield 120, 3) := by decide +kernel
theorem dX10_floatOf_71 : decode cX10_floatOf 71 = .ok (.i2f, 1) := by decide +kernel
theorem dX10_floatOf_72 : decode cX10_floatOf 72 = .ok (.fdiv, 1) := by decide +kernel
theorem dX10_floatOf_73 : decode cX10_floatOf 73 = .ok (.freturn, 1) := by decide +kernel
theorem dX10_floatOf_74 : decode cX10_floatOf 74 = .ok (.fconst 0, 1) := by decide +kernel
theorem dX10_floatOf_75 : decode cX10_floatOf 75 = .ok (.fstore_n 2, 1) := by decide +kernel
theorem dX10_floatOf_76 : decode cX10_floatOf 76 = .ok (.iconst 0, 1) := by decide +kernel
theorem dX10_floatOf_77 : decode cX10_floatOf 77 = .ok (.istore_n 3, 1) := by decide +kernel
theorem dX10_floatOf_78 : decode cX10_floatOf 78 = .ok (.iload_n 3, 1) := by decide +kernel
theorem dX10_floatOf_79 : decode cX10_floatOf 79 = .ok (.aload_n 0, 1) := by decide +kernel
theorem dX10_floatOf_80 : decode cX10_floatOf 80 = .ok (.invokevirtual 123, 3) := by decide +kernel
theorem dX10_floatOf_83 : decode cX10_floatOf 83 = .ok (.if_icmp .ge 31, 3) := by decide +kernel
theorem dX10_floatOf_86 : decode cX10_floatOf 86 = .ok (.fload_n 2, 1) := by decide +kernel
theorem dX10_floatOf_87 : decode cX10_floatOf 87 = .ok (.ldc_w 322, 3) := by decide +kernel
theorem dX10_floatOf_90 : decode cX10_floatOf 90 = .ok (.fmul, 1) := by decide +kernel
theorem dX10_floatOf_91 : decode cX10_floatOf 91 = .ok (.aload_n 0, 1) := by decide +kernel
theorem dX10_floatOf_92 : decode cX10_floatOf 92 = .ok (.getfield 30, 3) := by decide +kernel
theorem dX10_floatOf_95 : decode cX10_floatOf 95 = .ok (.aload_n 0, 1) := by decide +kernel
theorem dX10_floatOf_96 : decode cX10_floatOf 96 = .ok (.iload_n 3, 1) := by decide +kernel
theorem dX10_floatOf_97 : decode cX10_floatOf 97 = .ok (.invokevirtual 127, 3) := by decide +kernel
theorem dX10_floatOf_100 : decode cX10_floatOf 100 = .ok (.iaload, 1) := by decide +kernel
theorem dX10_floatOf_101 : decode cX10_floatOf 101 = .ok (.i2f, 1) := by decide +kernel
theorem dX10_floatOf_102 : decode cX10_floatOf 102 = .ok (.fadd, 1) := by decide +kernel
theorem dX10_floatOf_103 : decode cX10_floatOf 103 = .ok (.ldc_w 324, 3) := by decide +kernel
theorem dX10_floatOf_106 : decode cX10_floatOf 106 = .ok (.fmul, 1) := by decide +kernel
theorem dX10_floatOf_107 : decode cX10_floatOf 107 = .ok (.fstore_n 2, 1) := by decide +kernel
theorem dX10_floatOf_108 : decode cX10_floatOf 108 = .ok (.iinc 3 1, 3) := by decide +kernel
theorem dX10_floatOf_111 : decode cX10_floatOf 111 = .ok (.goto (-33), 3) := by decide +kernel
theorem dX10_floatOf_114 : decode cX10_floatOf 114 = .ok (.fload_n 2, 1) := by decide +kernel
theorem dX10_floatOf_115 : decode cX10_floatOf 115 = .ok (.freturn, 1) := by decide +kernel
theorem dX10_bits_0 : decode cX10_bits 0 = .ok (.aload_n 0, 1) := by decide +kernel
theorem dX10_bits_1 : decode cX10_bits 1 = .ok (.iconst 0, 1) := by decide +kernel
theorem dX10_bits_2 : decode cX10_bits 2 = .ok (.putfield 1, 3) := by decide +kernel
theorem dX10_bits_5 : decode cX10_bits 5 = .ok (.iload_n 1, 1) := by decide +kernel
theorem dX10_bits_6 : decode cX10_bits 6 = .ok (.i2l, 1) := by decide +kernel
theorem dX10_bits_7 : decode cX10_bits 7 = .ok (.lconst 0, 1) := by decide +kernel
theorem dX10_bits_8 : decode cX10_bits 8 = .ok (.ldc2_w 286, 3) := by decide +kernel
theorem dX10_bits_11 : decode cX10_bits 11 = .ok (.invokestatic 98, 3) := by decide +kernel
theorem dX10_bits_14 : decode cX10_bits 14 = .ok (.ifCond .eq 14, 3) := by decide +kernel
theorem dX10_bits_17 : decode cX10_bits 17 = .ok (.aload_n 0, 1) := by decide +kernel
theorem dX10_bits_18 : decode cX10_bits 18 = .ok (.iload_n 1, 1) := by decide +kernel
theorem dX10_bits_19 : decode cX10_bits 19 = .ok (.invokevirtual 325, 3) := by decide +kernel
theorem dX10_bits_22 : decode cX10_bits 22 = .ok (.invokestatic 329, 3) := by decide +kernel
theorem dX10_bits_25 : decode cX10_bits 25 = .ok (.goto 6, 3) := by decide +kernel
theorem dX10_bits_28 : decode cX10_bits 28 = .ok (.ldc_w 333, 3) := by decide +kernel
theorem dX10_bits_31 : decode cX10_bits 31 = .ok (.ireturn, 1) := by decide +kernel
theorem dX10_undo_0 : decode cX10_undo 0 = .ok (.aload_n 0, 1) := by decide +kernel
theorem dX10_undo_1 : decode cX10_undo 1 = .ok (.iconst 0, 1) := by decide +kernel
theorem dX10_undo_2 : decode cX10_undo 2 = .ok (.putfield 1, 3) := by decide +kernel
theorem dX10_undo_5 : decode cX10_undo 5 = .ok (.iload_n 1, 1) := by decide +kernel
theorem dX10_undo_6 : decode cX10_undo 6 = .ok (.i2l, 1) := by decide +kernel
theorem dX10_undo_7 : decode cX10_undo 7 = .ok (.lconst 1, 1) := by decide +kernel
theorem dX10_undo_8 : decode cX10_undo 8 = .ok (.ldc2_w 276, 3) := by decide +kernel
theorem dX10_undo_11 : decode cX10_undo 11 = .ok (.invokestatic 98, 3) := by decide +kernel
theorem dX10_undo_14 : decode cX10_undo 14 = .ok (.ifCond .eq 11, 3) := by decide +kernel
theorem dX10_undo_17 : decode cX10_undo 17 = .ok (.iload_n 1, 1) := by decide +kernel
theorem dX10_undo_18 : decode cX10_undo 18 = .ok (.aload_n 0, 1) := by decide +kernel
theorem dX10_undo_19 : decode cX10_undo 19 = .ok (.getfield 85, 3) := by decide +kernel
theorem dX10_undo_22 : decode cX10_undo 22 = .ok (.if_icmp .le 6, 3) := by decide +kernel
theorem dX10_undo_25 : decode cX10_undo 25 = .ok (.bipush (-3), 2) := by decide +kernel
theorem dX10_undo_27 : decode cX10_undo 27 = .ok (.ireturn, 1) := by decide +kernel
theorem dX10_undo_28 : decode cX10_undo 28 = .ok (.aload_n 0, 1) := by decide +kernel
theorem dX10_undo_29 : decode cX10_undo 29 = .ok (.dup, 1) := by decide +kernel
theorem dX10_undo_30 : decode cX10_undo 30 = .ok (.getfield 85, 3) := by decide +kernel
theorem dX10_undo_33 : decode cX10_undo 33 = .ok (.iload_n 1, 1) := by decide +kernel
theorem dX10_undo_34 : decode cX10_undo 34 = .ok (.isub, 1) := by decide +kernel
theorem dX10_undo_35 : decode cX10_undo 35 = .ok (.putfield 85, 3) := by decide +kernel
theorem dX10_undo_38 : decode cX10_undo 38 = .ok (.aload_n 0, 1) := by decide +kernel
theorem dX10_undo_39 : decode cX10_undo 39 = .ok (.getfield 17, 3) := by decide +kernel
theorem dX10_undo_42 : decode cX10_undo 42 = .ok (.sipush 1021, 3) := by decide +kernel
theorem dX10_undo_45 : decode cX10_undo 45 = .ok (.aload_n 0, 1) := by decide +kernel
theorem dX10_undo_46 : decode cX10_undo 46 = .ok (.getfield 85, 3) := by decide +kernel
theorem dX10_undo_49 : decode cX10_undo 49 = .ok (.imul, 1) := by decide +kernel
theorem dX10_undo_50 : decode cX10_undo 50 = .ok (.aload_n 0, 1) := by decide +kernel
theorem dX10_undo_51 : decode cX10_undo 51 = .ok (.getfield 13, 3) := by decide +kernel
theorem dX10_undo_54 : decode cX10_undo 54 = .ok (.iconst 0, 1) := by decide +kernel
theorem dX10_undo_55 : decode cX10_undo 55 = .ok (.sipush 1021, 3) := by decide +kernel
theorem dX10_undo_58 : decode cX10_undo 58 = .ok (.invokestatic 88, 3) := by decide +kernel
theorem dX10_undo_61 : decode cX10_undo 61 = .ok (.aload_n 0, 1) := by decide +kernel
theorem dX10_undo_62 : decode cX10_undo 62 = .ok (.getfield 85, 3) := by decide +kernel
theorem dX10_undo_65 : decode cX10_undo 65 = .ok (.ireturn, 1) := by decide +kernel
theorem dX10_image_0 : decode cX10_image 0 = .ok (.aload_n 0, 1) := by decide +kernel
theorem dX10_image_1 : decode cX10_image 1 = .ok (.iconst 0, 1) := by decide +kernel
theorem dX10_image_2 : decode cX10_image 2 = .ok (.putfield 1, 3) := by decide +kernel
theorem dX10_image_5 : decode cX10_image 5 = .ok (.iload_n 1, 1) := by decide +kernel
theorem dX10_image_6 : decode cX10_image 6 = .ok (.i2l, 1) := by decide +kernel
theorem dX10_image_7 : decode cX10_image 7 = .ok (.lconst 0, 1) := by decide +kernel
theorem dX10_image_8 : decode cX10_image 8 = .ok (.lconst 1, 1) := by decide +kernel
theorem dX10_image_9 : decode cX10_image 9 = .ok (.invokestatic 98, 3) := by decide +kernel
theorem dX10_image_12 : decode cX10_image 12 = .ok (.ifCond .ne 6, 3) := by decide +kernel
theorem dX10_image_15 : decode cX10_image 15 = .ok (.bipush (-2), 2) := by decide +kernel
theorem dX10_image_17 : decode cX10_image 17 = .ok (.ireturn, 1) := by decide +kernel
theorem dX10_image_18 : decode cX10_image 18 = .ok (.aload_n 0, 1) := by decide +kernel
theorem dX10_image_19 : decode cX10_image 19 = .ok (.getfield 13, 3) := by decide +kernel
theorem dX10_image_22 : decode cX10_image 22 = .ok (.iconst 0, 1) := by decide +kernel
theorem dX10_image_23 : decode cX10_image 23 = .ok (.aload_n 0, 1) := by decide +kernel
theorem dX10_image_24 : decode cX10_image 24 = .ok (.getfield 13, 3) := by decide +kernel
theorem dX10_image_27 : decode cX10_image 27 = .ok (.sipush 1021, 3) := by decide +kernel
theorem dX10_image_30 : decode cX10_image 30 = .ok (.iload_n 1, 1) := by decide +kernel
theorem dX10_image_31 : decode cX10_image 31 = .ok (.iconst 1, 1) := by decide +kernel
theorem dX10_image_32 : decode cX10_image 32 = .ok (.iadd, 1) := by decide +kernel
theorem dX10_image_33 : decode cX10_image 33 = .ok (.imul, 1) := by decide +kernel
theorem dX10_image_34 : decode cX10_image 34 = .ok (.sipush 1021, 3) := by decide +kernel
theorem dX10_image_37 : decode cX10_image 37 = .ok (.invokestatic 88, 3) := by decide +kernel
theorem dX10_image_40 : decode cX10_image 40 = .ok (.aload_n 0, 1) := by decide +kernel
theorem dX10_image_41 : decode cX10_image 41 = .ok (.getfield 26, 3) := by decide +kernel
theorem dX10_image_44 : decode cX10_image 44 = .ok (.iload_n 1, 1) := by decide +kernel
theorem dX10_image_45 : decode cX10_image 45 = .ok (.iconst 1, 1) := by decide +kernel
theorem dX10_image_46 : decode cX10_image 46 = .ok (.bastore, 1) := by decide +kernel
theorem dX10_image_47 : decode cX10_image 47 = .ok (.iconst 0, 1) := by decide +kernel
theorem dX10_image_48 : decode cX10_image 48 = .ok (.ireturn, 1) := by decide +kernel
theorem dX10_restore_0 : decode cX10_restore 0 = .ok (.aload_n 0, 1) := by decide +kernel
theorem dX10_restore_1 : decode cX10_restore 1 = .ok (.iconst 0, 1) := by decide +kernel
theorem dX10_restore_2 : decode cX10_restore 2 = .ok (.putfield 1, 3) := by decide +kernel
theorem dX10_restore_5 : decode cX10_restore 5 = .ok (.iload_n 1, 1) := by decide +kernel
theorem dX10_restore_6 : decode cX10_restore 6 = .ok (.i2l, 1) := by decide +kernel
theorem dX10_restore_7 : decode cX10_restore 7 = .ok (.lconst 0, 1) := by decide +kernel
theorem dX10_restore_8 : decode cX10_restore 8 = .ok (.lconst 1, 1) := by decide +kernel
theorem dX10_restore_9 : decode cX10_restore 9 = .ok (.invokestatic 98, 3) := by decide +kernel
theorem dX10_restore_12 : decode cX10_restore 12 = .ok (.ifCond .ne 6, 3) := by decide +kernel
theorem dX10_restore_15 : decode cX10_restore 15 = .ok (.bipush (-2), 2) := by decide +kernel
theorem dX10_restore_17 : decode cX10_restore 17 = .ok (.ireturn, 1) := by decide +kernel
theorem dX10_restore_18 : decode cX10_restore 18 = .ok (.aload_n 0, 1) := by decide +kernel
theorem dX10_restore_19 : decode cX10_restore 19 = .ok (.getfield 26, 3) := by decide +kernel
theorem dX10_restore_22 : decode cX10_restore 22 = .ok (.iload_n 1, 1) := by decide +kernel
theorem dX10_restore_23 : decode cX10_restore 23 = .ok (.baload, 1) := by decide +kernel
theorem dX10_restore_24 : decode cX10_restore 24 = .ok (.ifCond .ne 6, 3) := by decide +kernel
theorem dX10_restore_27 : decode cX10_restore 27 = .ok (.bipush (-6), 2) := by decide +kernel
theorem dX10_restore_29 : decode cX10_restore 29 = .ok (.ireturn, 1) := by decide +kernel
theorem dX10_restore_30 : decode cX10_restore 30 = .ok (.aload_n 0, 1) := by decide +kernel
theorem dX10_restore_31 : decode cX10_restore 31 = .ok (.getfield 13, 3) := by decide +kernel
theorem dX10_restore_34 : decode cX10_restore 34 = .ok (.sipush 1021, 3) := by decide +kernel
theorem dX10_restore_37 : decode cX10_restore 37 = .ok (.iload_n 1, 1) := by decide +kernel
theorem dX10_restore_38 : decode cX10_restore 38 = .ok (.iconst 1, 1) := by decide +kernel
theorem dX10_restore_39 : decode cX10_restore 39 = .ok (.iadd, 1) := by decide +kernel
theorem dX10_restore_40 : decode cX10_restore 40 = .ok (.imul, 1) := by decide +kernel
theorem dX10_restore_41 : decode cX10_restore 41 = .ok (.aload_n 0, 1) := by decide +kernel
theorem dX10_restore_42 : decode cX10_restore 42 = .ok (.getfield 13, 3) := by decide +kernel
theorem dX10_restore_45 : decode cX10_restore 45 = .ok (.iconst 0, 1) := by decide +kernel
theorem dX10_restore_46 : decode cX10_restore 46 = .ok (.sipush 1021, 3) := by decide +kernel
theorem dX10_restore_49 : decode cX10_restore 49 = .ok (.invokestatic 88, 3) := by decide +kernel
theorem dX10_restore_52 : decode cX10_restore 52 = .ok (.aload_n 0, 1) := by decide +kernel
theorem dX10_restore_53 : decode cX10_restore 53 = .ok (.iconst 0, 1) := by decide +kernel
theorem dX10_restore_54 : decode cX10_restore 54 = .ok (.putfield 85, 3) := by decide +kernel
theorem dX10_restore_57 : decode cX10_restore 57 = .ok (.iconst 0, 1) := by decide +kernel
theorem dX10_restore_58 : decode cX10_restore 58 = .ok (.ireturn, 1) := by decide +kernel
theorem dX10_rulesMany_0 : decode cX10_rulesMany 0 = .ok (.iconst 0, 1) := by decide +kernel
theorem dX10_rulesMany_1 : decode cX10_rulesMany 1 = .ok (.istore_n 1, 1) := by decide +kernel
theorem dX10_rulesMany_2 : decode cX10_rulesMany 2 = .ok (.bipush 26, 2) := by decide +kernel
theorem dX10_rulesMany_4 : decode cX10_rulesMany 4 = .ok (.istore_n 2, 1) := by decide +kernel
theorem dX10_rulesMany_5 : decode cX10_rulesMany 5 = .ok (.iload_n 2, 1) := by decide +kernel
theorem dX10_rulesMany_6 : decode cX10_rulesMany 6 = .ok (.bipush 86, 2) := by decide +kernel
theorem dX10_rulesMany_8 : decode cX10_rulesMany 8 = .ok (.if_icmp .ge 25, 3) := by decide +kernel
theorem dX10_rulesMany_11 : decode cX10_rulesMany 11 = .ok (.iload_n 1, 1) := by decide +kernel
theorem dX10_rulesMany_12 : decode cX10_rulesMany 12 = .ok (.aload_n 0, 1) := by decide +kernel
theorem dX10_rulesMany_13 : decode cX10_rulesMany 13 = .ok (.iload_n 2, 1) := by decide +kernel
theorem dX10_rulesMany_14 : decode cX10_rulesMany 14 = .ok (.invokevirtual 106, 3) := by decide +kernel
theorem dX10_rulesMany_17 : decode cX10_rulesMany 17 = .ok (.ifCond .le 7, 3) := by decide +kernel
theorem dX10_rulesMany_20 : decode cX10_rulesMany 20 = .ok (.iconst 1, 1) := by decide +kernel
theorem dX10_rulesMany_21 : decode cX10_rulesMany 21 = .ok (.goto 4, 3) := by decide +kernel
theorem dX10_rulesMany_24 : decode cX10_rulesMany 24 = .ok (.iconst 0, 1) := by decide +kernel
theorem dX10_rulesMany_25 : decode cX10_rulesMany 25 = .ok (.iadd, 1) := by decide +kernel
theorem dX10_rulesMany_26 : decode cX10_rulesMany 26 = .ok (.istore_n 1, 1) := by decide +kernel
theorem dX10_rulesMany_27 : decode cX10_rulesMany 27 = .ok (.iinc 2 1, 3) := by decide +kernel
theorem dX10_rulesMany_30 : decode cX10_rulesMany 30 = .ok (.goto (-25), 3) := by decide +kernel
theorem dX10_rulesMany_33 : decode cX10_rulesMany 33 = .ok (.iload_n 1, 1) := by decide +kernel
theorem dX10_rulesMany_34 : decode cX10_rulesMany 34 = .ok (.ireturn, 1) := by decide +kernel
theorem dX10_deepest_0 : decode cX10_deepest 0 = .ok (.aload_n 0, 1) := by decide +kernel
theorem dX10_deepest_1 : decode cX10_deepest 1 = .ok (.invokevirtual 134, 3) := by decide +kernel
theorem dX10_deepest_4 : decode cX10_deepest 4 = .ok (.iconst 0, 1) := by decide +kernel
theorem dX10_deepest_5 : decode cX10_deepest 5 = .ok (.istore_n 1, 1) := by decide +kernel
theorem dX10_deepest_6 : decode cX10_deepest 6 = .ok (.iconst 0, 1) := by decide +kernel
theorem dX10_deepest_7 : decode cX10_deepest 7 = .ok (.istore_n 2, 1) := by decide +kernel
theorem dX10_deepest_8 : decode cX10_deepest 8 = .ok (.iload_n 2, 1) := by decide +kernel
theorem dX10_deepest_9 : decode cX10_deepest 9 = .ok (.aload_n 0, 1) := by decide +kernel
theorem dX10_deepest_10 : decode cX10_deepest 10 = .ok (.invokevirtual 123, 3) := by decide +kernel
theorem dX10_deepest_13 : decode cX10_deepest 13 = .ok (.if_icmp .ge 24, 3) := by decide +kernel
theorem dX10_deepest_16 : decode cX10_deepest 16 = .ok (.iload_n 1, 1) := by decide +kernel
theorem dX10_deepest_17 : decode cX10_deepest 17 = .ok (.aload_n 0, 1) := by decide +kernel
theorem dX10_deepest_18 : decode cX10_deepest 18 = .ok (.getfield 33, 3) := by decide +kernel
theorem dX10_deepest_21 : decode cX10_deepest 21 = .ok (.aload_n 0, 1) := by decide +kernel
theorem dX10_deepest_22 : decode cX10_deepest 22 = .ok (.iload_n 2, 1) := by decide +kernel
theorem dX10_deepest_23 : decode cX10_deepest 23 = .ok (.invokevirtual 127, 3) := by decide +kernel
theorem dX10_deepest_26 : decode cX10_deepest 26 = .ok (.iaload, 1) := by decide +kernel
theorem dX10_deepest_27 : decode cX10_deepest 27 = .ok (.invokestatic 117, 3) := by decide +kernel
theorem dX10_deepest_30 : decode cX10_deepest 30 = .ok (.istore_n 1, 1) := by decide +kernel
theorem dX10_deepest_31 : decode cX10_deepest 31 = .ok (.iinc 2 1, 3) := by decide +kernel
theorem dX10_deepest_34 : decode cX10_deepest 34 = .ok (.goto (-26), 3) := by decide +kernel
theorem dX10_deepest_37 : decode cX10_deepest 37 = .ok (.iload_n 1, 1) := by decide +kernel
theorem dX10_deepest_38 : decode cX10_deepest 38 = .ok (.ireturn, 1) := by decide +kernel
theorem dX10_count_0 : decode cX10_count 0 = .ok (.aload_n 0, 1) := by decide +kernel
theorem dX10_count_1 : decode cX10_count 1 = .ok (.iconst 0, 1) := by decide +kernel
theorem dX10_count_2 : decode cX10_count 2 = .ok (.putfield 1, 3) := by decide +kernel
theorem dX10_count_5 : decode cX10_count 5 = .ok (.iload_n 1, 1) := by decide +kernel
theorem dX10_count_6 : decode cX10_count 6 = .ok (.tableswitch 117 0 10 #[58, 63, 68, 73, 78, 83, 88, 93, 98, 103, 112], 58) := by decide +kernel
theorem dX10_count_64 : decode cX10_count 64 = .ok (.aload_n 0, 1) := by decide +kernel
theorem dX10_count_65 : decode cX10_count 65 = .ok (.invokevirtual 174, 3) := by decide +kernel
theorem dX10_count_68 : decode cX10_count 68 = .ok (.ireturn, 1) := by decide +kernel
theorem dX10_count_69 : decode cX10_count 69 = .ok (.aload_n 0, 1) := by decide +kernel
theorem dX10_count_70 : decode cX10_count 70 = .ok (.invokevirtual 123, 3) := by decide +kernel
theorem dX10_count_73 : decode cX10_count 73 = .ok (.ireturn, 1) := by decide +kernel
theorem dX10_count_74 : decode cX10_count 74 = .ok (.aload_n 0, 1) := by decide +kernel
theorem dX10_count_75 : decode cX10_count 75 = .ok (.invokevirtual 180, 3) := by decide +kernel
theorem dX10_count_78 : decode cX10_count 78 = .ok (.ireturn, 1) := by decide +kernel
theorem dX10_count_79 : decode cX10_count 79 = .ok (.aload_n 0, 1) := by decide +kernel
theorem dX10_count_80 : decode cX10_count 80 = .ok (.invokevirtual 264, 3) := by decide +kernel
theorem dX10_count_83 : decode cX10_count 83 = .ok (.ireturn, 1) := by decide +kernel
theorem dX10_count_84 : decode cX10_count 84 = .ok (.aload_n 0, 1) := by decide +kernel
theorem dX10_count_85 : decode cX10_count 85 = .ok (.invokevirtual 334, 3) := by decide +kernel
theorem dX10_count_88 : decode cX10_count 88 = .ok (.ireturn, 1) := by decide +kernel
theorem dX10_count_89 : decode cX10_count 89 = .ok (.aload_n 0, 1) := by decide +kernel
theorem dX10_count_90 : decode cX10_count 90 = .ok (.getfield 137, 3) := by decide +kernel
theorem dX10_count_93 : decode cX10_count 93 = .ok (.ireturn, 1) := by decide +kernel
theorem dX10_count_94 : decode cX10_count 94 = .ok (.aload_n 0, 1) := by decide +kernel
theorem dX10_count_95 : decode cX10_count 95 = .ok (.getfield 85, 3) := by decide +kernel
theorem dX10_count_98 : decode cX10_count 98 = .ok (.ireturn, 1) := by decide +kernel
theorem dX10_count_99 : decode cX10_count 99 = .ok (.aload_n 0, 1) := by decide +kernel
theorem dX10_count_100 : decode cX10_count 100 = .ok (.invokevirtual 236, 3) := by decide +kernel
theorem dX10_count_103 : decode cX10_count 103 = .ok (.ireturn, 1) := by decide +kernel
theorem dX10_count_104 : decode cX10_count 104 = .ok (.aload_n 0, 1) := by decide +kernel
theorem dX10_count_105 : decode cX10_count 105 = .ok (.invokevirtual 233, 3) := by decide +kernel
theorem dX10_count_108 : decode cX10_count 108 = .ok (.ireturn, 1) := by decide +kernel
theorem dX10_count_109 : decode cX10_count 109 = .ok (.aload_n 0, 1) := by decide +kernel
theorem dX10_count_110 : decode cX10_count 110 = .ok (.invokevirtual 189, 3) := by decide +kernel
theorem dX10_count_113 : decode cX10_count 113 = .ok (.aload_n 0, 1) := by decide +kernel
theorem dX10_count_114 : decode cX10_count 114 = .ok (.getfield 177, 3) := by decide +kernel
theorem dX10_count_117 : decode cX10_count 117 = .ok (.ireturn, 1) := by decide +kernel
theorem dX10_count_118 : decode cX10_count 118 = .ok (.aload_n 0, 1) := by decide +kernel
theorem dX10_count_119 : decode cX10_count 119 = .ok (.invokevirtual 337, 3) := by decide +kernel
theorem dX10_count_122 : decode cX10_count 122 = .ok (.ireturn, 1) := by decide +kernel
theorem dX10_count_123 : decode cX10_count 123 = .ok (.iconst (-1), 1) := by decide +kernel
theorem dX10_count_124 : decode cX10_count 124 = .ok (.ireturn, 1) := by decide +kernel
theorem dJ9_floorMod_7cf53_0 : decode cJ9_floorMod_7cf53 0 = .ok (.iload_n 0, 1) := by decide +kernel
theorem dJ9_floorMod_7cf53_1 : decode cJ9_floorMod_7cf53 1 = .ok (.iload_n 1, 1) := by decide +kernel
theorem dJ9_floorMod_7cf53_2 : decode cJ9_floorMod_7cf53 2 = .ok (.irem, 1) := by decide +kernel
theorem dJ9_floorMod_7cf53_3 : decode cJ9_floorMod_7cf53 3 = .ok (.istore_n 2, 1) := by decide +kernel
theorem dJ9_floorMod_7cf53_4 : decode cJ9_floorMod_7cf53 4 = .ok (.iload_n 0, 1) := by decide +kernel
theorem dJ9_floorMod_7cf53_5 : decode cJ9_floorMod_7cf53 5 = .ok (.iload_n 1, 1) := by decide +kernel
theorem dJ9_floorMod_7cf53_6 : decode cJ9_floorMod_7cf53 6 = .ok (.ixor, 1) := by decide +kernel
theorem dJ9_floorMod_7cf53_7 : decode cJ9_floorMod_7cf53 7 = .ok (.ifCond .ge 11, 3) := by decide +kernel
theorem dJ9_floorMod_7cf53_10 : decode cJ9_floorMod_7cf53 10 = .ok (.iload_n 2, 1) := by decide +kernel
theorem dJ9_floorMod_7cf53_11 : decode cJ9_floorMod_7cf53 11 = .ok (.ifCond .eq 7, 3) := by decide +kernel
theorem dJ9_floorMod_7cf53_14 : decode cJ9_floorMod_7cf53 14 = .ok (.iload_n 2, 1) := by decide +kernel
theorem dJ9_floorMod_7cf53_15 : decode cJ9_floorMod_7cf53 15 = .ok (.iload_n 1, 1) := by decide +kernel
theorem dJ9_floorMod_7cf53_16 : decode cJ9_floorMod_7cf53 16 = .ok (.iadd, 1) := by decide +kernel
theorem dJ9_floorMod_7cf53_17 : decode cJ9_floorMod_7cf53 17 = .ok (.ireturn, 1) := by decide +kernel
theorem dJ9_floorMod_7cf53_18 : decode cJ9_floorMod_7cf53 18 = .ok (.iload_n 2, 1) := by decide +kernel
theorem dJ9_floorMod_7cf53_19 : decode cJ9_floorMod_7cf53 19 = .ok (.ireturn, 1) := by decide +kernel
theorem dJ9_max_7cf53_0 : decode cJ9_max_7cf53 0 = .ok (.iload_n 0, 1) := by decide +kernel
theorem dJ9_max_7cf53_1 : decode cJ9_max_7cf53 1 = .ok (.iload_n 1, 1) := by decide +kernel
theorem dJ9_max_7cf53_2 : decode cJ9_max_7cf53 2 = .ok (.if_icmp .lt 7, 3) := by decide +kernel
theorem dJ9_max_7cf53_5 : decode cJ9_max_7cf53 5 = .ok (.iload_n 0, 1) := by decide +kernel
theorem dJ9_max_7cf53_6 : decode cJ9_max_7cf53 6 = .ok (.goto 4, 3) := by decide +kernel
theorem dJ9_max_7cf53_9 : decode cJ9_max_7cf53 9 = .ok (.iload_n 1, 1) := by decide +kernel
theorem dJ9_max_7cf53_10 : decode cJ9_max_7cf53 10 = .ok (.ireturn, 1) := by decide +kernel
theorem dJ9_min_7cf53_0 : decode cJ9_min_7cf53 0 = .ok (.iload_n 0, 1) := by decide +kernel
theorem dJ9_min_7cf53_1 : decode cJ9_min_7cf53 1 = .ok (.iload_n 1, 1) := by decide +kernel
theorem dJ9_min_7cf53_2 : decode cJ9_min_7cf53 2 = .ok (.if_icmp .gt 7, 3) := by decide +kernel
theorem dJ9_min_7cf53_5 : decode cJ9_min_7cf53 5 = .ok (.iload_n 0, 1) := by decide +kernel
theorem dJ9_min_7cf53_6 : decode cJ9_min_7cf53 6 = .ok (.goto 4, 3) := by decide +kernel
theorem dJ9_min_7cf53_9 : decode cJ9_min_7cf53 9 = .ok (.iload_n 1, 1) := by decide +kernel
theorem dJ9_min_7cf53_10 : decode cJ9_min_7cf53 10 = .ok (.ireturn, 1) := by decide +kernel
theorem dL_law_0 : decode cL_law 0 = .ok (.new 7, 3) := by decide +kernel
theorem dL_law_3 : decode cL_law 3 = .ok (.dup, 1) := by decide +kernel
theorem dL_law_4 : decode cL_law 4 = .ok (.invokespecial 9, 3) := by decide +kernel
theorem dL_law_7 : decode cL_law 7 = .ok (.astore_n 1, 1) := by decide +kernel
theorem dL_law_8 : decode cL_law 8 = .ok (.new 10, 3) := by decide +kernel
theorem dL_law_11 : decode cL_law 11 = .ok (.dup, 1) := by decide +kernel
theorem dL_law_12 : decode cL_law 12 = .ok (.invokespecial 12, 3) := by decide +kernel
theorem dL_law_15 : decode cL_law 15 = .ok (.astore_n 2, 1) := by decide +kernel
theorem dL_law_16 : decode cL_law 16 = .ok (.iconst 0, 1) := by decide +kernel
theorem dL_law_17 : decode cL_law 17 = .ok (.istore_n 3, 1) := by decide +kernel
theorem dL_law_18 : decode cL_law 18 = .ok (.iload_n 3, 1) := by decide +kernel
theorem dL_law_19 : decode cL_law 19 = .ok (.aload_n 0, 1) := by decide +kernel
theorem dL_law_20 : decode cL_law 20 = .ok (.arraylength, 1) := by decide +kernel
theorem dL_law_21 : decode cL_law 21 = .ok (.bipush 6, 2) := by decide +kernel
theorem dL_law_23 : decode cL_law 23 = .ok (.isub, 1) := by decide +kernel
theorem dL_law_24 : decode cL_law 24 = .ok (.if_icmp .gt 1277, 3) := by decide +kernel
theorem dL_law_27 : decode cL_law 27 = .ok (.aload_n 0, 1) := by decide +kernel
theorem dL_law_28 : decode cL_law 28 = .ok (.iload_n 3, 1) := by decide +kernel
theorem dL_law_29 : decode cL_law 29 = .ok (.iaload, 1) := by decide +kernel
theorem dL_law_30 : decode cL_law 30 = .ok (.bipush 63, 2) := by decide +kernel
theorem dL_law_32 : decode cL_law 32 = .ok (.iand, 1) := by decide +kernel
theorem dL_law_33 : decode cL_law 33 = .ok (.tableswitch 1262 0 40 #[179, 242, 265, 288, 311, 334, 347, 360, 393, 416, 429, 442, 475, 508, 541, 564, 597, 630, 663, 686, 709, 742, 775, 808, 841, 874, 907, 940, 953, 966, 989, 1012, 1045, 1068, 1091, 1114, 1147, 1170, 1193, 1216, 1239], 179) := by decide +kernel
theorem dL_law_212 : decode cL_law 212 = .ok (.aload_n 1, 1) := by decide +kernel
theorem dL_law_213 : decode cL_law 213 = .ok (.aload_n 0, 1) := by decide +kernel
theorem dL_law_214 : decode cL_law 214 = .ok (.iload_n 3, 1) := by decide +kernel
theorem dL_law_215 : decode cL_law 215 = .ok (.iconst 1, 1) := by decide +kernel
theorem dL_law_216 : decode cL_law 216 = .ok (.iadd, 1) := by decide +kernel
theorem dL_law_217 : decode cL_law 217 = .ok (.iaload, 1) := by decide +kernel
theorem dL_law_218 : decode cL_law 218 = .ok (.aload_n 0, 1) := by decide +kernel
theorem dL_law_219 : decode cL_law 219 = .ok (.iload_n 3, 1) := by decide +kernel
theorem dL_law_220 : decode cL_law 220 = .ok (.iconst 2, 1) := by decide +kernel
theorem dL_law_221 : decode cL_law 221 = .ok (.iadd, 1) := by decide +kernel
theorem dL_law_222 : decode cL_law 222 = .ok (.iaload, 1) := by decide +kernel
theorem dL_law_223 : decode cL_law 223 = .ok (.aload_n 0, 1) := by decide +kernel
theorem dL_law_224 : decode cL_law 224 = .ok (.iload_n 3, 1) := by decide +kernel
theorem dL_law_225 : decode cL_law 225 = .ok (.iconst 3, 1) := by decide +kernel
theorem dL_law_226 : decode cL_law 226 = .ok (.iadd, 1) := by decide +kernel
theorem dL_law_227 : decode cL_law 227 = .ok (.iaload, 1) := by decide +kernel
theorem dL_law_228 : decode cL_law 228 = .ok (.aload_n 0, 1) := by decide +kernel
theorem dL_law_229 : decode cL_law 229 = .ok (.iload_n 3, 1) := by decide +kernel
theorem dL_law_230 : decode cL_law 230 = .ok (.iconst 4, 1) := by decide +kernel
theorem dL_law_231 : decode cL_law 231 = .ok (.iadd, 1) := by decide +kernel
theorem dL_law_232 : decode cL_law 232 = .ok (.iaload, 1) := by decide +kernel
theorem dL_law_233 : decode cL_law 233 = .ok (.aload_n 0, 1) := by decide +kernel
theorem dL_law_234 : decode cL_law 234 = .ok (.iload_n 3, 1) := by decide +kernel
theorem dL_law_235 : decode cL_law 235 = .ok (.iconst 5, 1) := by decide +kernel
theorem dL_law_236 : decode cL_law 236 = .ok (.iadd, 1) := by decide +kernel
theorem dL_law_237 : decode cL_law 237 = .ok (.iaload, 1) := by decide +kernel
theorem dL_law_238 : decode cL_law 238 = .ok (.invokevirtual 13, 3) := by decide +kernel
theorem dL_law_241 : decode cL_law 241 = .ok (.aload_n 2, 1) := by decide +kernel
theorem dL_law_242 : decode cL_law 242 = .ok (.aload_n 0, 1) := by decide +kernel
theorem dL_law_243 : decode cL_law 243 = .ok (.iload_n 3, 1) := by decide +kernel
theorem dL_law_244 : decode cL_law 244 = .ok (.iconst 1, 1) := by decide +kernel
theorem dL_law_245 : decode cL_law 245 = .ok (.iadd, 1) := by decide +kernel
theorem dL_law_246 : decode cL_law 246 = .ok (.iaload, 1) := by decide +kernel
theorem dL_law_247 : decode cL_law 247 = .ok (.aload_n 0, 1) := by decide +kernel
theorem dL_law_248 : decode cL_law 248 = .ok (.iload_n 3, 1) := by decide +kernel
theorem dL_law_249 : decode cL_law 249 = .ok (.iconst 2, 1) := by decide +kernel
theorem dL_law_250 : decode cL_law 250 = .ok (.iadd, 1) := by decide +kernel
theorem dL_law_251 : decode cL_law 251 = .ok (.iaload, 1) := by decide +kernel
theorem dL_law_252 : decode cL_law 252 = .ok (.aload_n 0, 1) := by decide +kernel
theorem dL_law_253 : decode cL_law 253 = .ok (.iload_n 3, 1) := by decide +kernel
theorem dL_law_254 : decode cL_law 254 = .ok (.iconst 3, 1) := by decide +kernel
theorem dL_law_255 : decode cL_law 255 = .ok (.iadd, 1) := by decide +kernel
theorem dL_law_256 : decode cL_law 256 = .ok (.iaload, 1) := by decide +kernel
theorem dL_law_257 : decode cL_law 257 = .ok (.aload_n 0, 1) := by decide +kernel
theorem dL_law_258 : decode cL_law 258 = .ok (.iload_n 3, 1) := by decide +kernel
theorem dL_law_259 : decode cL_law 259 = .ok (.iconst 4, 1) := by decide +kernel
theorem dL_law_260 : decode cL_law 260 = .ok (.iadd, 1) := by decide +kernel
theorem dL_law_261 : decode cL_law 261 = .ok (.iaload, 1) := by decide +kernel
theorem dL_law_262 : decode cL_law 262 = .ok (.aload_n 0, 1) := by decide +kernel
theorem dL_law_263 : decode cL_law 263 = .ok (.iload_n 3, 1) := by decide +kernel
theorem dL_law_264 : decode cL_law 264 = .ok (.iconst 5, 1) := by decide +kernel
theorem dL_law_265 : decode cL_law 265 = .ok (.iadd, 1) := by decide +kernel
theorem dL_law_266 : decode cL_law 266 = .ok (.iaload, 1) := by decide +kernel
theorem dL_law_267 : decode cL_law 267 = .ok (.invokevirtual 17, 3) := by decide +kernel
theorem dL_law_270 : decode cL_law 270 = .ok (.if_icmp .eq 1025, 3) := by decide +kernel
theorem dL_law_273 : decode cL_law 273 = .ok (.iconst 0, 1) := by decide +kernel
theorem dL_law_274 : decode cL_law 274 = .ok (.ireturn, 1) := by decide +kernel
theorem dL_law_275 : decode cL_law 275 = .ok (.aload_n 1, 1) := by decide +kernel
theorem dL_law_276 : decode cL_law 276 = .ok (.aload_n 0, 1) := by decide +kernel
theorem dL_law_277 : decode cL_law 277 = .ok (.iload_n 3, 1) := by decide +kernel
theorem dL_law_278 : decode cL_law 278 = .ok (.iconst 1, 1) := by decide +kernel
theorem dL_law_279 : decode cL_law 279 = .ok (.iadd, 1) := by decide +kernel
theorem dL_law_280 : decode cL_law 280 = .ok (.iaload, 1) := by decide +kernel
theorem dL_law_281 : decode cL_law 281 = .ok (.invokevirtual 18, 3) := by decide +kernel
theorem dL_law_284 : decode cL_law 284 = .ok (.aload_n 2, 1) := by decide +kernel
theorem dL_law_285 : decode cL_law 285 = .ok (.aload_n 0, 1) := by decide +kernel
theorem dL_law_286 : decode cL_law 286 = .ok (.iload_n 3, 1) := by decide +kernel
theorem dL_law_287 : decode cL_law 287 = .ok (.iconst 1, 1) := by decide +kernel
theorem dL_law_288 : decode cL_law 288 = .ok (.iadd, 1) := by decide +kernel
theorem dL_law_289 : decode cL_law 289 = .ok (.iaload, 1) := by decide +kernel
theorem dL_law_290 : decode cL_law 290 = .ok (.invokevirtual 22, 3) := by decide +kernel
theorem dL_law_293 : decode cL_law 293 = .ok (.if_icmp .eq 1002, 3) := by decide +kernel
theorem dL_law_296 : decode cL_law 296 = .ok (.iconst 0, 1) := by decide +kernel
theorem dL_law_297 : decode cL_law 297 = .ok (.ireturn, 1) := by decide +kernel
theorem dL_law_298 : decode cL_law 298 = .ok (.aload_n 1, 1) := by decide +kernel
theorem dL_law_299 : decode cL_law 299 = .ok (.aload_n 0, 1) := by decide +kernel
theorem dL_law_300 : decode cL_law 300 = .ok (.iload_n 3, 1) := by decide +kernel
theorem dL_law_301 : decode cL_law 301 = .ok (.iconst 1, 1) := by decide +kernel
theorem dL_law_302 : decode cL_law 302 = .ok (.iadd, 1) := by decide +kernel
theorem dL_law_303 : decode cL_law 303 = .ok (.iaload, 1) := by decide +kernel
theorem dL_law_304 : decode cL_law 304 = .ok (.invokevirtual 23, 3) := by decide +kernel
theorem dL_law_307 : decode cL_law 307 = .ok (.aload_n 2, 1) := by decide +kernel
theorem dL_law_308 : decode cL_law 308 = .ok (.aload_n 0, 1) := by decide +kernel
theorem dL_law_309 : decode cL_law 309 = .ok (.iload_n 3, 1) := by decide +kernel
theorem dL_law_310 : decode cL_law 310 = .ok (.iconst 1, 1) := by decide +kernel
theorem dL_law_311 : decode cL_law 311 = .ok (.iadd, 1) := by decide +kernel
theorem dL_law_312 : decode cL_law 312 = .ok (.iaload, 1) := by decide +kernel
theorem dL_law_313 : decode cL_law 313 = .ok (.invokevirtual 26, 3) := by decide +kernel
theorem dL_law_316 : decode cL_law 316 = .ok (.if_icmp .eq 979, 3) := by decide +kernel
theorem dL_law_319 : decode cL_law 319 = .ok (.iconst 0, 1) := by decide +kernel
theorem dL_law_320 : decode cL_law 320 = .ok (.ireturn, 1) := by decide +kernel
theorem dL_law_321 : decode cL_law 321 = .ok (.aload_n 1, 1) := by decide +kernel
theorem dL_law_322 : decode cL_law 322 = .ok (.aload_n 0, 1) := by decide +kernel
theorem dL_law_323 : decode cL_law 323 = .ok (.iload_n 3, 1) := by decide +kernel
theorem dL_law_324 : decode cL_law 324 = .ok (.iconst 1, 1) := by decide +kernel
theorem dL_law_325 : decode cL_law 325 = .ok (.iadd, 1) := by decide +kernel
theorem dL_law_326 : decode cL_law 326 = .ok (.iaload, 1) := by decide +kernel
theorem dL_law_327 : decode cL_law 327 = .ok (.invokevirtual 27, 3) := by decide +kernel
theorem dL_law_330 : decode cL_law 330 = .ok (.aload_n 2, 1) := by decide +kernel
theorem dL_law_331 : decode cL_law 331 = .ok (.aload_n 0, 1) := by decide +kernel
theorem dL_law_332 : decode cL_law 332 = .ok (.iload_n 3, 1) := by decide +kernel
theorem dL_law_333 : decode cL_law 333 = .ok (.iconst 1, 1) := by decide +kernel
theorem dL_law_334 : decode cL_law 334 = .ok (.iadd, 1) := by decide +kernel
theorem dL_law_335 : decode cL_law 335 = .ok (.iaload, 1) := by decide +kernel
theorem dL_law_336 : decode cL_law 336 = .ok (.invokevirtual 30, 3) := by decide +kernel
theorem dL_law_339 : decode cL_law 339 = .ok (.if_icmp .eq 956, 3) := by decide +kernel
theorem dL_law_342 : decode cL_law 342 = .ok (.iconst 0, 1) := by decide +kernel
theorem dL_law_343 : decode cL_law 343 = .ok (.ireturn, 1) := by decide +kernel
theorem dL_law_344 : decode cL_law 344 = .ok (.aload_n 1, 1) := by decide +kernel
theorem dL_law_345 : decode cL_law 345 = .ok (.aload_n 0, 1) := by decide +kernel
theorem dL_law_346 : decode cL_law 346 = .ok (.iload_n 3, 1) := by decide +kernel
theorem dL_law_347 : decode cL_law 347 = .ok (.iconst 1, 1) := by decide +kernel
theorem dL_law_348 : decode cL_law 348 = .ok (.iadd, 1) := by decide +kernel
theorem dL_law_349 : decode cL_law 349 = .ok (.iaload, 1) := by decide +kernel
theorem dL_law_350 : decode cL_law 350 = .ok (.invokevirtual 31, 3) := by decide +kernel
theorem dL_law_353 : decode cL_law 353 = .ok (.aload_n 2, 1) := by decide +kernel
theorem dL_law_354 : decode cL_law 354 = .ok (.aload_n 0, 1) := by decide +kernel
theorem dL_law_355 : decode cL_law 355 = .ok (.iload_n 3, 1) := by decide +kernel
theorem dL_law_356 : decode cL_law 356 = .ok (.iconst 1, 1) := by decide +kernel
theorem dL_law_357 : decode cL_law 357 = .ok (.iadd, 1) := by decide +kernel
theorem dL_law_358 : decode cL_law 358 = .ok (.iaload, 1) := by decide +kernel
theorem dL_law_359 : decode cL_law 359 = .ok (.invokevirtual 34, 3) := by decide +kernel
theorem dL_law_362 : decode cL_law 362 = .ok (.if_icmp .eq 933, 3) := by decide +kernel
theorem dL_law_365 : decode cL_law 365 = .ok (.iconst 0, 1) := by decide +kernel
theorem dL_law_366 : decode cL_law 366 = .ok (.ireturn, 1) := by decide +kernel
theorem dL_law_367 : decode cL_law 367 = .ok (.aload_n 1, 1) := by decide +kernel
theorem dL_law_368 : decode cL_law 368 = .ok (.invokevirtual 35, 3) := by decide +kernel
theorem dL_law_371 : decode cL_law 371 = .ok (.aload_n 2, 1) := by decide +kernel
theorem dL_law_372 : decode cL_law 372 = .ok (.invokevirtual 39, 3) := by decide +kernel
theorem dL_law_375 : decode cL_law 375 = .ok (.if_icmp .eq 920, 3) := by decide +kernel
theorem dL_law_378 : decode cL_law 378 = .ok (.iconst 0, 1) := by decide +kernel
theorem dL_law_379 : decode cL_law 379 = .ok (.ireturn, 1) := by decide +kernel
theorem dL_law_380 : decode cL_law 380 = .ok (.aload_n 1, 1) := by decide +kernel
theorem dL_law_381 : decode cL_law 381 = .ok (.invokevirtual 40, 3) := by decide +kernel
theorem dL_law_384 : decode cL_law 384 = .ok (.aload_n 2, 1) := by decide +kernel
theorem dL_law_385 : decode cL_law 385 = .ok (.invokevirtual 43, 3) := by decide +kernel
theorem dL_law_388 : decode cL_law 388 = .ok (.if_icmp .eq 907, 3) := by decide +kernel
theorem dL_law_391 : decode cL_law 391 = .ok (.iconst 0, 1) := by decide +kernel
theorem dL_law_392 : decode cL_law 392 = .ok (.ireturn, 1) := by decide +kernel
theorem dL_law_393 : decode cL_law 393 = .ok (.aload_n 1, 1) := by decide +kernel
theorem dL_law_394 : decode cL_law 394 = .ok (.aload_n 0, 1) := by decide +kernel
theorem dL_law_395 : decode cL_law 395 = .ok (.iload_n 3, 1) := by decide +kernel
theorem dL_law_396 : decode cL_law 396 = .ok (.iconst 1, 1) := by decide +kernel
theorem dL_law_397 : decode cL_law 397 = .ok (.iadd, 1) := by decide +kernel
theorem dL_law_398 : decode cL_law 398 = .ok (.iaload, 1) := by decide +kernel
theorem dL_law_399 : decode cL_law 399 = .ok (.aload_n 0, 1) := by decide +kernel
theorem dL_law_400 : decode cL_law 400 = .ok (.iload_n 3, 1) := by decide +kernel
theorem dL_law_401 : decode cL_law 401 = .ok (.iconst 2, 1) := by decide +kernel
theorem dL_law_402 : decode cL_law 402 = .ok (.iadd, 1) := by decide +kernel
theorem dL_law_403 : decode cL_law 403 = .ok (.iaload, 1) := by decide +kernel
theorem dL_law_404 : decode cL_law 404 = .ok (.invokevirtual 44, 3) := by decide +kernel
theorem dL_law_407 : decode cL_law 407 = .ok (.aload_n 2, 1) := by decide +kernel
theorem dL_law_408 : decode cL_law 408 = .ok (.aload_n 0, 1) := by decide +kernel
theorem dL_law_409 : decode cL_law 409 = .ok (.iload_n 3, 1) := by decide +kernel
theorem dL_law_410 : decode cL_law 410 = .ok (.iconst 1, 1) := by decide +kernel
theorem dL_law_411 : decode cL_law 411 = .ok (.iadd, 1) := by decide +kernel
theorem dL_law_412 : decode cL_law 412 = .ok (.iaload, 1) := by decide +kernel
theorem dL_law_413 : decode cL_law 413 = .ok (.aload_n 0, 1) := by decide +kernel
theorem dL_law_414 : decode cL_law 414 = .ok (.iload_n 3, 1) := by decide +kernel
theorem dL_law_415 : decode cL_law 415 = .ok (.iconst 2, 1) := by decide +kernel
theorem dL_law_416 : decode cL_law 416 = .ok (.iadd, 1) := by decide +kernel
theorem dL_law_417 : decode cL_law 417 = .ok (.iaload, 1) := by decide +kernel
theorem dL_law_418 : decode cL_law 418 = .ok (.invokevirtual 48, 3) := by decide +kernel
theorem dL_law_421 : decode cL_law 421 = .ok (.if_icmp .eq 874, 3) := by decide +kernel
theorem dL_law_424 : decode cL_law 424 = .ok (.iconst 0, 1) := by decide +kernel
theorem dL_law_425 : decode cL_law 425 = .ok (.ireturn, 1) := by decide +kernel
theorem dL_law_426 : decode cL_law 426 = .ok (.aload_n 1, 1) := by decide +kernel
theorem dL_law_427 : decode cL_law 427 = .ok (.aload_n 0, 1) := by decide +kernel
theorem dL_law_428 : decode cL_law 428 = .ok (.iload_n 3, 1) := by decide +kernel
theorem dL_law_429 : decode cL_law 429 = .ok (.iconst 1, 1) := by decide +kernel
theorem dL_law_430 : decode cL_law 430 = .ok (.iadd, 1) := by decide +kernel
theorem dL_law_431 : decode cL_law 431 = .ok (.iaload, 1) := by decide +kernel
theorem dL_law_432 : decode cL_law 432 = .ok (.invokevirtual 49, 3) := by decide +kernel
theorem dL_law_435 : decode cL_law 435 = .ok (.aload_n 2, 1) := by decide +kernel
theorem dL_law_436 : decode cL_law 436 = .ok (.aload_n 0, 1) := by decide +kernel
theorem dL_law_437 : decode cL_law 437 = .ok (.iload_n 3, 1) := by decide +kernel
theorem dL_law_438 : decode cL_law 438 = .ok (.iconst 1, 1) := by decide +kernel
theorem dL_law_439 : decode cL_law 439 = .ok (.iadd, 1) := by decide +kernel
theorem dL_law_440 : decode cL_law 440 = .ok (.iaload, 1) := by decide +kernel
theorem dL_law_441 : decode cL_law 441 = .ok (.invokevirtual 52, 3) := by decide +kernel
theorem dL_law_444 : decode cL_law 444 = .ok (.if_icmp .eq 851, 3) := by decide +kernel
theorem dL_law_447 : decode cL_law 447 = .ok (.iconst 0, 1) := by decide +kernel
theorem dL_law_448 : decode cL_law 448 = .ok (.ireturn, 1) := by decide +kernel
theorem dL_law_449 : decode cL_law 449 = .ok (.aload_n 1, 1) := by decide +kernel
theorem dL_law_450 : decode cL_law 450 = .ok (.invokevirtual 53, 3) := by decide +kernel
theorem dL_law_453 : decode cL_law 453 = .ok (.aload_n 2, 1) := by decide +kernel
theorem dL_law_454 : decode cL_law 454 = .ok (.invokevirtual 56, 3) := by decide +kernel
theorem dL_law_457 : decode cL_law 457 = .ok (.if_icmp .eq 838, 3) := by decide +kernel
theorem dL_law_460 : decode cL_law 460 = .ok (.iconst 0, 1) := by decide +kernel
theorem dL_law_461 : decode cL_law 461 = .ok (.ireturn, 1) := by decide +kernel
theorem dL_law_462 : decode cL_law 462 = .ok (.aload_n 1, 1) := by decide +kernel
theorem dL_law_463 : decode cL_law 463 = .ok (.invokevirtual 57, 3) := by decide +kernel
theorem dL_law_466 : decode cL_law 466 = .ok (.aload_n 2, 1) := by decide +kernel
theorem dL_law_467 : decode cL_law 467 = .ok (.invokevirtual 60, 3) := by decide +kernel
theorem dL_law_470 : decode cL_law 470 = .ok (.if_icmp .eq 825, 3) := by decide +kernel
theorem dL_law_473 : decode cL_law 473 = .ok (.iconst 0, 1) := by decide +kernel
theorem dL_law_474 : decode cL_law 474 = .ok (.ireturn, 1) := by decide +kernel
theorem dL_law_475 : decode cL_law 475 = .ok (.aload_n 1, 1) := by decide +kernel
theorem dL_law_476 : decode cL_law 476 = .ok (.aload_n 0, 1) := by decide +kernel
theorem dL_law_477 : decode cL_law 477 = .ok (.iload_n 3, 1) := by decide +kernel
theorem dL_law_478 : decode cL_law 478 = .ok (.iconst 1, 1) := by decide +kernel
theorem dL_law_479 : decode cL_law 479 = .ok (.iadd, 1) := by decide +kernel
theorem dL_law_480 : decode cL_law 480 = .ok (.iaload, 1) := by decide +kernel
theorem dL_law_481 : decode cL_law 481 = .ok (.aload_n 0, 1) := by decide +kernel
theorem dL_law_482 : decode cL_law 482 = .ok (.iload_n 3, 1) := by decide +kernel
theorem dL_law_483 : decode cL_law 483 = .ok (.iconst 2, 1) := by decide +kernel
theorem dL_law_484 : decode cL_law 484 = .ok (.iadd, 1) := by decide +kernel
theorem dL_law_485 : decode cL_law 485 = .ok (.iaload, 1) := by decide +kernel
theorem dL_law_486 : decode cL_law 486 = .ok (.invokevirtual 61, 3) := by decide +kernel
theorem dL_law_489 : decode cL_law 489 = .ok (.aload_n 2, 1) := by decide +kernel
theorem dL_law_490 : decode cL_law 490 = .ok (.aload_n 0, 1) := by decide +kernel
theorem dL_law_491 : decode cL_law 491 = .ok (.iload_n 3, 1) := by decide +kernel
theorem dL_law_492 : decode cL_law 492 = .ok (.iconst 1, 1) := by decide +kernel
theorem dL_law_493 : decode cL_law 493 = .ok (.iadd, 1) := by decide +kernel
theorem dL_law_494 : decode cL_law 494 = .ok (.iaload, 1) := by decide +kernel
theorem dL_law_495 : decode cL_law 495 = .ok (.aload_n 0, 1) := by decide +kernel
theorem dL_law_496 : decode cL_law 496 = .ok (.iload_n 3, 1) := by decide +kernel
theorem dL_law_497 : decode cL_law 497 = .ok (.iconst 2, 1) := by decide +kernel
theorem dL_law_498 : decode cL_law 498 = .ok (.iadd, 1) := by decide +kernel
theorem dL_law_499 : decode cL_law 499 = .ok (.iaload, 1) := by decide +kernel
theorem dL_law_500 : decode cL_law 500 = .ok (.invokevirtual 64, 3) := by decide +kernel
theorem dL_law_503 : decode cL_law 503 = .ok (.if_icmp .eq 792, 3) := by decide +kernel
theorem dL_law_506 : decode cL_law 506 = .ok (.iconst 0, 1) := by decide +kernel
theorem dL_law_507 : decode cL_law 507 = .ok (.ireturn, 1) := by decide +kernel
theorem dL_law_508 : decode cL_law 508 = .ok (.aload_n 1, 1) := by decide +kernel
theorem dL_law_509 : decode cL_law 509 = .ok (.aload_n 0, 1) := by decide +kernel
theorem dL_law_510 : decode cL_law 510 = .ok (.iload_n 3, 1) := by decide +kernel
theorem dL_law_511 : decode cL_law 511 = .ok (.iconst 1, 1) := by decide +kernel
theorem dL_law_512 : decode cL_law 512 = .ok (.iadd, 1) := by decide +kernel
theorem dL_law_513 : decode cL_law 513 = .ok (.iaload, 1) := by decide +kernel
theorem dL_law_514 : decode cL_law 514 = .ok (.aload_n 0, 1) := by decide +kernel
theorem dL_law_515 : decode cL_law 515 = .ok (.iload_n 3, 1) := by decide +kernel
theorem dL_law_516 : decode cL_law 516 = .ok (.iconst 2, 1) := by decide +kernel
theorem dL_law_517 : decode cL_law 517 = .ok (.iadd, 1) := by decide +kernel
theorem dL_law_518 : decode cL_law 518 = .ok (.iaload, 1) := by decide +kernel
theorem dL_law_519 : decode cL_law 519 = .ok (.invokevirtual 65, 3) := by decide +kernel
theorem dL_law_522 : decode cL_law 522 = .ok (.aload_n 2, 1) := by decide +kernel
theorem dL_law_523 : decode cL_law 523 = .ok (.aload_n 0, 1) := by decide +kernel
theorem dL_law_524 : decode cL_law 524 = .ok (.iload_n 3, 1) := by decide +kernel
theorem dL_law_525 : decode cL_law 525 = .ok (.iconst 1, 1) := by decide +kernel
theorem dL_law_526 : decode cL_law 526 = .ok (.iadd, 1) := by decide +kernel
theorem dL_law_527 : decode cL_law 527 = .ok (.iaload, 1) := by decide +kernel
theorem dL_law_528 : decode cL_law 528 = .ok (.aload_n 0, 1) := by decide +kernel
theorem dL_law_529 : decode cL_law 529 = .ok (.iload_n 3, 1) := by decide +kernel
theorem dL_law_530 : decode cL_law 530 = .ok (.iconst 2, 1) := by decide +kernel
theorem dL_law_531 : decode cL_law 531 = .ok (.iadd, 1) := by decide +kernel
theorem dL_law_532 : decode cL_law 532 = .ok (.iaload, 1) := by decide +kernel
theorem dL_law_533 : decode cL_law 533 = .ok (.invokevirtual 68, 3) := by decide +kernel
theorem dL_law_536 : decode cL_law 536 = .ok (.if_icmp .eq 759, 3) := by decide +kernel
theorem dL_law_539 : decode cL_law 539 = .ok (.iconst 0, 1) := by decide +kernel
theorem dL_law_540 : decode cL_law 540 = .ok (.ireturn, 1) := by decide +kernel
theorem dL_law_541 : decode cL_law 541 = .ok (.aload_n 1, 1) := by decide +kernel
theorem dL_law_542 : decode cL_law 542 = .ok (.aload_n 0, 1) := by decide +kernel
theorem dL_law_543 : decode cL_law 543 = .ok (.iload_n 3, 1) := by decide +kernel
theorem dL_law_544 : decode cL_law 544 = .ok (.iconst 1, 1) := by decide +kernel
theorem dL_law_545 : decode cL_law 545 = .ok (.iadd, 1) := by decide +kernel
theorem dL_law_546 : decode cL_law 546 = .ok (.iaload, 1) := by decide +kernel
theorem dL_law_547 : decode cL_law 547 = .ok (.aload_n 0, 1) := by decide +kernel
theorem dL_law_548 : decode cL_law 548 = .ok (.iload_n 3, 1) := by decide +kernel
theorem dL_law_549 : decode cL_law 549 = .ok (.iconst 2, 1) := by decide +kernel
theorem dL_law_550 : decode cL_law 550 = .ok (.iadd, 1) := by decide +kernel
theorem dL_law_551 : decode cL_law 551 = .ok (.iaload, 1) := by decide +kernel
theorem dL_law_552 : decode cL_law 552 = .ok (.invokevirtual 69, 3) := by decide +kernel
theorem dL_law_555 : decode cL_law 555 = .ok (.aload_n 2, 1) := by decide +kernel
theorem dL_law_556 : decode cL_law 556 = .ok (.aload_n 0, 1) := by decide +kernel
theorem dL_law_557 : decode cL_law 557 = .ok (.iload_n 3, 1) := by decide +kernel
theorem dL_law_558 : decode cL_law 558 = .ok (.iconst 1, 1) := by decide +kernel
theorem dL_law_559 : decode cL_law 559 = .ok (.iadd, 1) := by decide +kernel
theorem dL_law_560 : decode cL_law 560 = .ok (.iaload, 1) := by decide +kernel
theorem dL_law_561 : decode cL_law 561 = .ok (.aload_n 0, 1) := by decide +kernel
theorem dL_law_562 : decode cL_law 562 = .ok (.iload_n 3, 1) := by decide +kernel
theorem dL_law_563 : decode cL_law 563 = .ok (.iconst 2, 1) := by decide +kernel
theorem dL_law_564 : decode cL_law 564 = .ok (.iadd, 1) := by decide +kernel
theorem dL_law_565 : decode cL_law 565 = .ok (.iaload, 1) := by decide +kernel
theorem dL_law_566 : decode cL_law 566 = .ok (.invokevirtual 72, 3) := by decide +kernel
theorem dL_law_569 : decode cL_law 569 = .ok (.if_icmp .eq 726, 3) := by decide +kernel
theorem dL_law_572 : decode cL_law 572 = .ok (.iconst 0, 1) := by decide +kernel
theorem dL_law_573 : decode cL_law 573 = .ok (.ireturn, 1) := by decide +kernel
theorem dL_law_574 : decode cL_law 574 = .ok (.aload_n 1, 1) := by decide +kernel
theorem dL_law_575 : decode cL_law 575 = .ok (.aload_n 0, 1) := by decide +kernel
theorem dL_law_576 : decode cL_law 576 = .ok (.iload_n 3, 1) := by decide +kernel
theorem dL_law_577 : decode cL_law 577 = .ok (.iconst 1, 1) := by decide +kernel
theorem dL_law_578 : decode cL_law 578 = .ok (.iadd, 1) := by decide +kernel
theorem dL_law_579 : decode cL_law 579 = .ok (.iaload, 1) := by decide +kernel
theorem dL_law_580 : decode cL_law 580 = .ok (.invokevirtual 73, 3) := by decide +kernel
theorem dL_law_583 : decode cL_law 583 = .ok (.aload_n 2, 1) := by decide +kernel
theorem dL_law_584 : decode cL_law 584 = .ok (.aload_n 0, 1) := by decide +kernel
theorem dL_law_585 : decode cL_law 585 = .ok (.iload_n 3, 1) := by decide +kernel
theorem dL_law_586 : decode cL_law 586 = .ok (.iconst 1, 1) := by decide +kernel
theorem dL_law_587 : decode cL_law 587 = .ok (.iadd, 1) := by decide +kernel
theorem dL_law_588 : decode cL_law 588 = .ok (.iaload, 1) := by decide +kernel
theorem dL_law_589 : decode cL_law 589 = .ok (.invokevirtual 76, 3) := by decide +kernel
theorem dL_law_592 : decode cL_law 592 = .ok (.if_icmp .eq 703, 3) := by decide +kernel
theorem dL_law_595 : decode cL_law 595 = .ok (.iconst 0, 1) := by decide +kernel
theorem dL_law_596 : decode cL_law 596 = .ok (.ireturn, 1) := by decide +kernel
theorem dL_law_597 : decode cL_law 597 = .ok (.aload_n 1, 1) := by decide +kernel
theorem dL_law_598 : decode cL_law 598 = .ok (.aload_n 0, 1) := by decide +kernel
theorem dL_law_599 : decode cL_law 599 = .ok (.iload_n 3, 1) := by decide +kernel
theorem dL_law_600 : decode cL_law 600 = .ok (.iconst 1, 1) := by decide +kernel
theorem dL_law_601 : decode cL_law 601 = .ok (.iadd, 1) := by decide +kernel
theorem dL_law_602 : decode cL_law 602 = .ok (.iaload, 1) := by decide +kernel
theorem dL_law_603 : decode cL_law 603 = .ok (.aload_n 0, 1) := by decide +kernel
theorem dL_law_604 : decode cL_law 604 = .ok (.iload_n 3, 1) := by decide +kernel
theorem dL_law_605 : decode cL_law 605 = .ok (.iconst 2, 1) := by decide +kernel
theorem dL_law_606 : decode cL_law 606 = .ok (.iadd, 1) := by decide +kernel
theorem dL_law_607 : decode cL_law 607 = .ok (.iaload, 1) := by decide +kernel
theorem dL_law_608 : decode cL_law 608 = .ok (.invokevirtual 77, 3) := by decide +kernel
theorem dL_law_611 : decode cL_law 611 = .ok (.aload_n 2, 1) := by decide +kernel
theorem dL_law_612 : decode cL_law 612 = .ok (.aload_n 0, 1) := by decide +kernel
theorem dL_law_613 : decode cL_law 613 = .ok (.iload_n 3, 1) := by decide +kernel
theorem dL_law_614 : decode cL_law 614 = .ok (.iconst 1, 1) := by decide +kernel
theorem dL_law_615 : decode cL_law 615 = .ok (.iadd, 1) := by decide +kernel
theorem dL_law_616 : decode cL_law 616 = .ok (.iaload, 1) := by decide +kernel
theorem dL_law_617 : decode cL_law 617 = .ok (.aload_n 0, 1) := by decide +kernel
theorem dL_law_618 : decode cL_law 618 = .ok (.iload_n 3, 1) := by decide +kernel
theorem dL_law_619 : decode cL_law 619 = .ok (.iconst 2, 1) := by decide +kernel
theorem dL_law_620 : decode cL_law 620 = .ok (.iadd, 1) := by decide +kernel
theorem dL_law_621 : decode cL_law 621 = .ok (.iaload, 1) := by decide +kernel
theorem dL_law_622 : decode cL_law 622 = .ok (.invokevirtual 80, 3) := by decide +kernel
theorem dL_law_625 : decode cL_law 625 = .ok (.if_icmp .eq 670, 3) := by decide +kernel
theorem dL_law_628 : decode cL_law 628 = .ok (.iconst 0, 1) := by decide +kernel
theorem dL_law_629 : decode cL_law 629 = .ok (.ireturn, 1) := by decide +kernel
theorem dL_law_630 : decode cL_law 630 = .ok (.aload_n 1, 1) := by decide +kernel
theorem dL_law_631 : decode cL_law 631 = .ok (.aload_n 0, 1) := by decide +kernel
theorem dL_law_632 : decode cL_law 632 = .ok (.iload_n 3, 1) := by decide +kernel
theorem dL_law_633 : decode cL_law 633 = .ok (.iconst 1, 1) := by decide +kernel
theorem dL_law_634 : decode cL_law 634 = .ok (.iadd, 1) := by decide +kernel
theorem dL_law_635 : decode cL_law 635 = .ok (.iaload, 1) := by decide +kernel
theorem dL_law_636 : decode cL_law 636 = .ok (.aload_n 0, 1) := by decide +kernel
theorem dL_law_637 : decode cL_law 637 = .ok (.iload_n 3, 1) := by decide +kernel
theorem dL_law_638 : decode cL_law 638 = .ok (.iconst 2, 1) := by decide +kernel
theorem dL_law_639 : decode cL_law 639 = .ok (.iadd, 1) := by decide +kernel
theorem dL_law_640 : decode cL_law 640 = .ok (.iaload, 1) := by decide +kernel
theorem dL_law_641 : decode cL_law 641 = .ok (.invokevirtual 81, 3) := by decide +kernel
theorem dL_law_644 : decode cL_law 644 = .ok (.aload_n 2, 1) := by decide +kernel
theorem dL_law_645 : decode cL_law 645 = .ok (.aload_n 0, 1) := by decide +kernel
theorem dL_law_646 : decode cL_law 646 = .ok (.iload_n 3, 1) := by decide +kernel
theorem dL_law_647 : decode cL_law 647 = .ok (.iconst 1, 1) := by decide +kernel
theorem dL_law_648 : decode cL_law 648 = .ok (.iadd, 1) := by decide +kernel
theorem dL_law_649 : decode cL_law 649 = .ok (.iaload, 1) := by decide +kernel
theorem dL_law_650 : decode cL_law 650 = .ok (.aload_n 0, 1) := by decide +kernel
theorem dL_law_651 : decode cL_law 651 = .ok (.iload_n 3, 1) := by decide +kernel
theorem dL_law_652 : decode cL_law 652 = .ok (.iconst 2, 1) := by decide +kernel
theorem dL_law_653 : decode cL_law 653 = .ok (.iadd, 1) := by decide +kernel
theorem dL_law_654 : decode cL_law 654 = .ok (.iaload, 1) := by decide +kernel
theorem dL_law_655 : decode cL_law 655 = .ok (.invokevirtual 84, 3) := by decide +kernel
theorem dL_law_658 : decode cL_law 658 = .ok (.if_icmp .eq 637, 3) := by decide +kernel
theorem dL_law_661 : decode cL_law 661 = .ok (.iconst 0, 1) := by decide +kernel
theorem dL_law_662 : decode cL_law 662 = .ok (.ireturn, 1) := by decide +kernel
theorem dL_law_663 : decode cL_law 663 = .ok (.aload_n 1, 1) := by decide +kernel
theorem dL_law_664 : decode cL_law 664 = .ok (.aload_n 0, 1) := by decide +kernel
theorem dL_law_665 : decode cL_law 665 = .ok (.iload_n 3, 1) := by decide +kernel
theorem dL_law_666 : decode cL_law 666 = .ok (.iconst 1, 1) := by decide +kernel
theorem dL_law_667 : decode cL_law 667 = .ok (.iadd, 1) := by decide +kernel
theorem dL_law_668 : decode cL_law 668 = .ok (.iaload, 1) := by decide +kernel
theorem dL_law_669 : decode cL_law 669 = .ok (.aload_n 0, 1) := by decide +kernel
theorem dL_law_670 : decode cL_law 670 = .ok (.iload_n 3, 1) := by decide +kernel
theorem dL_law_671 : decode cL_law 671 = .ok (.iconst 2, 1) := by decide +kernel
theorem dL_law_672 : decode cL_law 672 = .ok (.iadd, 1) := by decide +kernel
theorem dL_law_673 : decode cL_law 673 = .ok (.iaload, 1) := by decide +kernel
theorem dL_law_674 : decode cL_law 674 = .ok (.invokevirtual 85, 3) := by decide +kernel
theorem dL_law_677 : decode cL_law 677 = .ok (.aload_n 2, 1) := by decide +kernel
theorem dL_law_678 : decode cL_law 678 = .ok (.aload_n 0, 1) := by decide +kernel
theorem dL_law_679 : decode cL_law 679 = .ok (.iload_n 3, 1) := by decide +kernel
theorem dL_law_680 : decode cL_law 680 = .ok (.iconst 1, 1) := by decide +kernel
theorem dL_law_681 : decode cL_law 681 = .ok (.iadd, 1) := by decide +kernel
theorem dL_law_682 : decode cL_law 682 = .ok (.iaload, 1) := by decide +kernel
theorem dL_law_683 : decode cL_law 683 = .ok (.aload_n 0, 1) := by decide +kernel
theorem dL_law_684 : decode cL_law 684 = .ok (.iload_n 3, 1) := by decide +kernel
theorem dL_law_685 : decode cL_law 685 = .ok (.iconst 2, 1) := by decide +kernel
theorem dL_law_686 : decode cL_law 686 = .ok (.iadd, 1) := by decide +kernel
theorem dL_law_687 : decode cL_law 687 = .ok (.iaload, 1) := by decide +kernel
theorem dL_law_688 : decode cL_law 688 = .ok (.invokevirtual 88, 3) := by decide +kernel
theorem dL_law_691 : decode cL_law 691 = .ok (.if_icmp .eq 604, 3) := by decide +kernel
theorem dL_law_694 : decode cL_law 694 = .ok (.iconst 0, 1) := by decide +kernel
theorem dL_law_695 : decode cL_law 695 = .ok (.ireturn, 1) := by decide +kernel
theorem dL_law_696 : decode cL_law 696 = .ok (.aload_n 1, 1) := by decide +kernel
theorem dL_law_697 : decode cL_law 697 = .ok (.aload_n 0, 1) := by decide +kernel
theorem dL_law_698 : decode cL_law 698 = .ok (.iload_n 3, 1) := by decide +kernel
theorem dL_law_699 : decode cL_law 699 = .ok (.iconst 1, 1) := by decide +kernel
theorem dL_law_700 : decode cL_law 700 = .ok (.iadd, 1) := by decide +kernel
theorem dL_law_701 : decode cL_law 701 = .ok (.iaload, 1) := by decide +kernel
theorem dL_law_702 : decode cL_law 702 = .ok (.invokevirtual 89, 3) := by decide +kernel
theorem dL_law_705 : decode cL_law 705 = .ok (.aload_n 2, 1) := by decide +kernel
theorem dL_law_706 : decode cL_law 706 = .ok (.aload_n 0, 1) := by decide +kernel
theorem dL_law_707 : decode cL_law 707 = .ok (.iload_n 3, 1) := by decide +kernel
theorem dL_law_708 : decode cL_law 708 = .ok (.iconst 1, 1) := by decide +kernel
theorem dL_law_709 : decode cL_law 709 = .ok (.iadd, 1) := by decide +kernel
theorem dL_law_710 : decode cL_law 710 = .ok (.iaload, 1) := by decide +kernel
theorem dL_law_711 : decode cL_law 711 = .ok (.invokevirtual 92, 3) := by decide +kernel
theorem dL_law_714 : decode cL_law 714 = .ok (.if_icmp .eq 581, 3) := by decide +kernel
theorem dL_law_717 : decode cL_law 717 = .ok (.iconst 0, 1) := by decide +kernel
theorem dL_law_718 : decode cL_law 718 = .ok (.ireturn, 1) := by decide +kernel
theorem dL_law_719 : decode cL_law 719 = .ok (.aload_n 1, 1) := by decide +kernel
theorem dL_law_720 : decode cL_law 720 = .ok (.aload_n 0, 1) := by decide +kernel
theorem dL_law_721 : decode cL_law 721 = .ok (.iload_n 3, 1) := by decide +kernel
theorem dL_law_722 : decode cL_law 722 = .ok (.iconst 1, 1) := by decide +kernel
theorem dL_law_723 : decode cL_law 723 = .ok (.iadd, 1) := by decide +kernel
theorem dL_law_724 : decode cL_law 724 = .ok (.iaload, 1) := by decide +kernel
theorem dL_law_725 : decode cL_law 725 = .ok (.invokevirtual 93, 3) := by decide +kernel
theorem dL_law_728 : decode cL_law 728 = .ok (.aload_n 2, 1) := by decide +kernel
theorem dL_law_729 : decode cL_law 729 = .ok (.aload_n 0, 1) := by decide +kernel
theorem dL_law_730 : decode cL_law 730 = .ok (.iload_n 3, 1) := by decide +kernel
theorem dL_law_731 : decode cL_law 731 = .ok (.iconst 1, 1) := by decide +kernel
theorem dL_law_732 : decode cL_law 732 = .ok (.iadd, 1) := by decide +kernel
theorem dL_law_733 : decode cL_law 733 = .ok (.iaload, 1) := by decide +kernel
theorem dL_law_734 : decode cL_law 734 = .ok (.invokevirtual 96, 3) := by decide +kernel
theorem dL_law_737 : decode cL_law 737 = .ok (.if_icmp .eq 558, 3) := by decide +kernel
theorem dL_law_740 : decode cL_law 740 = .ok (.iconst 0, 1) := by decide +kernel
theorem dL_law_741 : decode cL_law 741 = .ok (.ireturn, 1) := by decide +kernel
theorem dL_law_742 : decode cL_law 742 = .ok (.aload_n 1, 1) := by decide +kernel
theorem dL_law_743 : decode cL_law 743 = .ok (.aload_n 0, 1) := by decide +kernel
theorem dL_law_744 : decode cL_law 744 = .ok (.iload_n 3, 1) := by decide +kernel
theorem dL_law_745 : decode cL_law 745 = .ok (.iconst 1, 1) := by decide +kernel
theorem dL_law_746 : decode cL_law 746 = .ok (.iadd, 1) := by decide +kernel
theorem dL_law_747 : decode cL_law 747 = .ok (.iaload, 1) := by decide +kernel
theorem dL_law_748 : decode cL_law 748 = .ok (.aload_n 0, 1) := by decide +kernel
theorem dL_law_749 : decode cL_law 749 = .ok (.iload_n 3, 1) := by decide +kernel
theorem dL_law_750 : decode cL_law 750 = .ok (.iconst 2, 1) := by decide +kernel
theorem dL_law_751 : decode cL_law 751 = .ok (.iadd, 1) := by decide +kernel
theorem dL_law_752 : decode cL_law 752 = .ok (.iaload, 1) := by decide +kernel
theorem dL_law_753 : decode cL_law 753 = .ok (.invokevirtual 97, 3) := by decide +kernel
theorem dL_law_756 : decode cL_law 756 = .ok (.aload_n 2, 1) := by decide +kernel
theorem dL_law_757 : decode cL_law 757 = .ok (.aload_n 0, 1) := by decide +kernel
theorem dL_law_758 : decode cL_law 758 = .ok (.iload_n 3, 1) := by decide +kernel
theorem dL_law_759 : decode cL_law 759 = .ok (.iconst 1, 1) := by decide +kernel
theorem dL_law_760 : decode cL_law 760 = .ok (.iadd, 1) := by decide +kernel
theorem dL_law_761 : decode cL_law 761 = .ok (.iaload, 1) := by decide +kernel
theorem dL_law_762 : decode cL_law 762 = .ok (.aload_n 0, 1) := by decide +kernel
theorem dL_law_763 : decode cL_law 763 = .ok (.iload_n 3, 1) := by decide +kernel
theorem dL_law_764 : decode cL_law 764 = .ok (.iconst 2, 1) := by decide +kernel
theorem dL_law_765 : decode cL_law 765 = .ok (.iadd, 1) := by decide +kernel
theorem dL_law_766 : decode cL_law 766 = .ok (.iaload, 1) := by decide +kernel
theorem dL_law_767 : decode cL_law 767 = .ok (.invokevirtual 100, 3) := by decide +kernel
theorem dL_law_770 : decode cL_law 770 = .ok (.if_icmp .eq 525, 3) := by decide +kernel
theorem dL_law_773 : decode cL_law 773 = .ok (.iconst 0, 1) := by decide +kernel
theorem dL_law_774 : decode cL_law 774 = .ok (.ireturn, 1) := by decide +kernel
theorem dL_law_775 : decode cL_law 775 = .ok (.aload_n 1, 1) := by decide +kernel
theorem dL_law_776 : decode cL_law 776 = .ok (.aload_n 0, 1) := by decide +kernel
theorem dL_law_777 : decode cL_law 777 = .ok (.iload_n 3, 1) := by decide +kernel
theorem dL_law_778 : decode cL_law 778 = .ok (.iconst 1, 1) := by decide +kernel
theorem dL_law_779 : decode cL_law 779 = .ok (.iadd, 1) := by decide +kernel
theorem dL_law_780 : decode cL_law 780 = .ok (.iaload, 1) := by decide +kernel
theorem dL_law_781 : decode cL_law 781 = .ok (.aload_n 0, 1) := by decide +kernel
theorem dL_law_782 : decode cL_law 782 = .ok (.iload_n 3, 1) := by decide +kernel
theorem dL_law_783 : decode cL_law 783 = .ok (.iconst 2, 1) := by decide +kernel
theorem dL_law_784 : decode cL_law 784 = .ok (.iadd, 1) := by decide +kernel
theorem dL_law_785 : decode cL_law 785 = .ok (.iaload, 1) := by decide +kernel
theorem dL_law_786 : decode cL_law 786 = .ok (.invokevirtual 101, 3) := by decide +kernel
theorem dL_law_789 : decode cL_law 789 = .ok (.aload_n 2, 1) := by decide +kernel
theorem dL_law_790 : decode cL_law 790 = .ok (.aload_n 0, 1) := by decide +kernel
theorem dL_law_791 : decode cL_law 791 = .ok (.iload_n 3, 1) := by decide +kernel
theorem dL_law_792 : decode cL_law 792 = .ok (.iconst 1, 1) := by decide +kernel
theorem dL_law_793 : decode cL_law 793 = .ok (.iadd, 1) := by decide +kernel
theorem dL_law_794 : decode cL_law 794 = .ok (.iaload, 1) := by decide +kernel
theorem dL_law_795 : decode cL_law 795 = .ok (.aload_n 0, 1) := by decide +kernel
theorem dL_law_796 : decode cL_law 796 = .ok (.iload_n 3, 1) := by decide +kernel
theorem dL_law_797 : decode cL_law 797 = .ok (.iconst 2, 1) := by decide +kernel
theorem dL_law_798 : decode cL_law 798 = .ok (.iadd, 1) := by decide +kernel
theorem dL_law_799 : decode cL_law 799 = .ok (.iaload, 1) := by decide +kernel
theorem dL_law_800 : decode cL_law 800 = .ok (.invokevirtual 104, 3) := by decide +kernel
theorem dL_law_803 : decode cL_law 803 = .ok (.if_icmp .eq 492, 3) := by decide +kernel
theorem dL_law_806 : decode cL_law 806 = .ok (.iconst 0, 1) := by decide +kernel
theorem dL_law_807 : decode cL_law 807 = .ok (.ireturn, 1) := by decide +kernel
theorem dL_law_808 : decode cL_law 808 = .ok (.aload_n 1, 1) := by decide +kernel
theorem dL_law_809 : decode cL_law 809 = .ok (.aload_n 0, 1) := by decide +kernel
theorem dL_law_810 : decode cL_law 810 = .ok (.iload_n 3, 1) := by decide +kernel
theorem dL_law_811 : decode cL_law 811 = .ok (.iconst 1, 1) := by decide +kernel
theorem dL_law_812 : decode cL_law 812 = .ok (.iadd, 1) := by decide +kernel
theorem dL_law_813 : decode cL_law 813 = .ok (.iaload, 1) := by decide +kernel
theorem dL_law_814 : decode cL_law 814 = .ok (.aload_n 0, 1) := by decide +kernel
theorem dL_law_815 : decode cL_law 815 = .ok (.iload_n 3, 1) := by decide +kernel
theorem dL_law_816 : decode cL_law 816 = .ok (.iconst 2, 1) := by decide +kernel
theorem dL_law_817 : decode cL_law 817 = .ok (.iadd, 1) := by decide +kernel
theorem dL_law_818 : decode cL_law 818 = .ok (.iaload, 1) := by decide +kernel
theorem dL_law_819 : decode cL_law 819 = .ok (.invokevirtual 105, 3) := by decide +kernel
theorem dL_law_822 : decode cL_law 822 = .ok (.aload_n 2, 1) := by decide +kernel
theorem dL_law_823 : decode cL_law 823 = .ok (.aload_n 0, 1) := by decide +kernel
theorem dL_law_824 : decode cL_law 824 = .ok (.iload_n 3, 1) := by decide +kernel
theorem dL_law_825 : decode cL_law 825 = .ok (.iconst 1, 1) := by decide +kernel
theorem dL_law_826 : decode cL_law 826 = .ok (.iadd, 1) := by decide +kernel
theorem dL_law_827 : decode cL_law 827 = .ok (.iaload, 1) := by decide +kernel
theorem dL_law_828 : decode cL_law 828 = .ok (.aload_n 0, 1) := by decide +kernel
theorem dL_law_829 : decode cL_law 829 = .ok (.iload_n 3, 1) := by decide +kernel
theorem dL_law_830 : decode cL_law 830 = .ok (.iconst 2, 1) := by decide +kernel
theorem dL_law_831 : decode cL_law 831 = .ok (.iadd, 1) := by decide +kernel
theorem dL_law_832 : decode cL_law 832 = .ok (.iaload, 1) := by decide +kernel
theorem dL_law_833 : decode cL_law 833 = .ok (.invokevirtual 108, 3) := by decide +kernel
theorem dL_law_836 : decode cL_law 836 = .ok (.if_icmp .eq 459, 3) := by decide +kernel
theorem dL_law_839 : decode cL_law 839 = .ok (.iconst 0, 1) := by decide +kernel
theorem dL_law_840 : decode cL_law 840 = .ok (.ireturn, 1) := by decide +kernel
theorem dL_law_841 : decode cL_law 841 = .ok (.aload_n 1, 1) := by decide +kernel
theorem dL_law_842 : decode cL_law 842 = .ok (.aload_n 0, 1) := by decide +kernel
theorem dL_law_843 : decode cL_law 843 = .ok (.iload_n 3, 1) := by decide +kernel
theorem dL_law_844 : decode cL_law 844 = .ok (.iconst 1, 1) := by decide +kernel
theorem dL_law_845 : decode cL_law 845 = .ok (.iadd, 1) := by decide +kernel
theorem dL_law_846 : decode cL_law 846 = .ok (.iaload, 1) := by decide +kernel
theorem dL_law_847 : decode cL_law 847 = .ok (.aload_n 0, 1) := by decide +kernel
theorem dL_law_848 : decode cL_law 848 = .ok (.iload_n 3, 1) := by decide +kernel
theorem dL_law_849 : decode cL_law 849 = .ok (.iconst 2, 1) := by decide +kernel
theorem dL_law_850 : decode cL_law 850 = .ok (.iadd, 1) := by decide +kernel
theorem dL_law_851 : decode cL_law 851 = .ok (.iaload, 1) := by decide +kernel
theorem dL_law_852 : decode cL_law 852 = .ok (.invokevirtual 109, 3) := by decide +kernel
theorem dL_law_855 : decode cL_law 855 = .ok (.aload_n 2, 1) := by decide +kernel
theorem dL_law_856 : decode cL_law 856 = .ok (.aload_n 0, 1) := by decide +kernel
theorem dL_law_857 : decode cL_law 857 = .ok (.iload_n 3, 1) := by decide +kernel
theorem dL_law_858 : decode cL_law 858 = .ok (.iconst 1, 1) := by decide +kernel
theorem dL_law_859 : decode cL_law 859 = .ok (.iadd, 1) := by decide +kernel
theorem dL_law_860 : decode cL_law 860 = .ok (.iaload, 1) := by decide +kernel
theorem dL_law_861 : decode cL_law 861 = .ok (.aload_n 0, 1) := by decide +kernel
theorem dL_law_862 : decode cL_law 862 = .ok (.iload_n 3, 1) := by decide +kernel
theorem dL_law_863 : decode cL_law 863 = .ok (.iconst 2, 1) := by decide +kernel
theorem dL_law_864 : decode cL_law 864 = .ok (.iadd, 1) := by decide +kernel
theorem dL_law_865 : decode cL_law 865 = .ok (.iaload, 1) := by decide +kernel
theorem dL_law_866 : decode cL_law 866 = .ok (.invokevirtual 112, 3) := by decide +kernel
theorem dL_law_869 : decode cL_law 869 = .ok (.if_icmp .eq 426, 3) := by decide +kernel
theorem dL_law_872 : decode cL_law 872 = .ok (.iconst 0, 1) := by decide +kernel
theorem dL_law_873 : decode cL_law 873 = .ok (.ireturn, 1) := by decide +kernel
theorem dL_law_874 : decode cL_law 874 = .ok (.aload_n 1, 1) := by decide +kernel
theorem dL_law_875 : decode cL_law 875 = .ok (.aload_n 0, 1) := by decide +kernel
theorem dL_law_876 : decode cL_law 876 = .ok (.iload_n 3, 1) := by decide +kernel
theorem dL_law_877 : decode cL_law 877 = .ok (.iconst 1, 1) := by decide +kernel
theorem dL_law_878 : decode cL_law 878 = .ok (.iadd, 1) := by decide +kernel
theorem dL_law_879 : decode cL_law 879 = .ok (.iaload, 1) := by decide +kernel
theorem dL_law_880 : decode cL_law 880 = .ok (.aload_n 0, 1) := by decide +kernel
theorem dL_law_881 : decode cL_law 881 = .ok (.iload_n 3, 1) := by decide +kernel
theorem dL_law_882 : decode cL_law 882 = .ok (.iconst 2, 1) := by decide +kernel
theorem dL_law_883 : decode cL_law 883 = .ok (.iadd, 1) := by decide +kernel
theorem dL_law_884 : decode cL_law 884 = .ok (.iaload, 1) := by decide +kernel
theorem dL_law_885 : decode cL_law 885 = .ok (.invokevirtual 113, 3) := by decide +kernel
theorem dL_law_888 : decode cL_law 888 = .ok (.aload_n 2, 1) := by decide +kernel
theorem dL_law_889 : decode cL_law 889 = .ok (.aload_n 0, 1) := by decide +kernel
theorem dL_law_890 : decode cL_law 890 = .ok (.iload_n 3, 1) := by decide +kernel
theorem dL_law_891 : decode cL_law 891 = .ok (.iconst 1, 1) := by decide +kernel
theorem dL_law_892 : decode cL_law 892 = .ok (.iadd, 1) := by decide +kernel
theorem dL_law_893 : decode cL_law 893 = .ok (.iaload, 1) := by decide +kernel
theorem dL_law_894 : decode cL_law 894 = .ok (.aload_n 0, 1) := by decide +kernel
theorem dL_law_895 : decode cL_law 895 = .ok (.iload_n 3, 1) := by decide +kernel
theorem dL_law_896 : decode cL_law 896 = .ok (.iconst 2, 1) := by decide +kernel
theorem dL_law_897 : decode cL_law 897 = .ok (.iadd, 1) := by decide +kernel
theorem dL_law_898 : decode cL_law 898 = .ok (.iaload, 1) := by decide +kernel
theorem dL_law_899 : decode cL_law 899 = .ok (.invokevirtual 116, 3) := by decide +kernel
theorem dL_law_902 : decode cL_law 902 = .ok (.if_icmp .eq 393, 3) := by decide +kernel
theorem dL_law_905 : decode cL_law 905 = .ok (.iconst 0, 1) := by decide +kernel
theorem dL_law_906 : decode cL_law 906 = .ok (.ireturn, 1) := by decide +kernel
theorem dL_law_907 : decode cL_law 907 = .ok (.aload_n 1, 1) := by decide +kernel
theorem dL_law_908 : decode cL_law 908 = .ok (.aload_n 0, 1) := by decide +kernel
theorem dL_law_909 : decode cL_law 909 = .ok (.iload_n 3, 1) := by decide +kernel
theorem dL_law_910 : decode cL_law 910 = .ok (.iconst 1, 1) := by decide +kernel
theorem dL_law_911 : decode cL_law 911 = .ok (.iadd, 1) := by decide +kernel
theorem dL_law_912 : decode cL_law 912 = .ok (.iaload, 1) := by decide +kernel
theorem dL_law_913 : decode cL_law 913 = .ok (.aload_n 0, 1) := by decide +kernel
theorem dL_law_914 : decode cL_law 914 = .ok (.iload_n 3, 1) := by decide +kernel
theorem dL_law_915 : decode cL_law 915 = .ok (.iconst 2, 1) := by decide +kernel
theorem dL_law_916 : decode cL_law 916 = .ok (.iadd, 1) := by decide +kernel
theorem dL_law_917 : decode cL_law 917 = .ok (.iaload, 1) := by decide +kernel
theorem dL_law_918 : decode cL_law 918 = .ok (.invokevirtual 117, 3) := by decide +kernel
theorem dL_law_921 : decode cL_law 921 = .ok (.aload_n 2, 1) := by decide +kernel
theorem dL_law_922 : decode cL_law 922 = .ok (.aload_n 0, 1) := by decide +kernel
theorem dL_law_923 : decode cL_law 923 = .ok (.iload_n 3, 1) := by decide +kernel
theorem dL_law_924 : decode cL_law 924 = .ok (.iconst 1, 1) := by decide +kernel
theorem dL_law_925 : decode cL_law 925 = .ok (.iadd, 1) := by decide +kernel
theorem dL_law_926 : decode cL_law 926 = .ok (.iaload, 1) := by decide +kernel
theorem dL_law_927 : decode cL_law 927 = .ok (.aload_n 0, 1) := by decide +kernel
theorem dL_law_928 : decode cL_law 928 = .ok (.iload_n 3, 1) := by decide +kernel
theorem dL_law_929 : decode cL_law 929 = .ok (.iconst 2, 1) := by decide +kernel
theorem dL_law_930 : decode cL_law 930 = .ok (.iadd, 1) := by decide +kernel
theorem dL_law_931 : decode cL_law 931 = .ok (.iaload, 1) := by decide +kernel
theorem dL_law_932 : decode cL_law 932 = .ok (.invokevirtual 120, 3) := by decide +kernel
theorem dL_law_935 : decode cL_law 935 = .ok (.if_icmp .eq 360, 3) := by decide +kernel
theorem dL_law_938 : decode cL_law 938 = .ok (.iconst 0, 1) := by decide +kernel
theorem dL_law_939 : decode cL_law 939 = .ok (.ireturn, 1) := by decide +kernel
theorem dL_law_940 : decode cL_law 940 = .ok (.aload_n 1, 1) := by decide +kernel
theorem dL_law_941 : decode cL_law 941 = .ok (.aload_n 0, 1) := by decide +kernel
theorem dL_law_942 : decode cL_law 942 = .ok (.iload_n 3, 1) := by decide +kernel
theorem dL_law_943 : decode cL_law 943 = .ok (.iconst 1, 1) := by decide +kernel
theorem dL_law_944 : decode cL_law 944 = .ok (.iadd, 1) := by decide +kernel
theorem dL_law_945 : decode cL_law 945 = .ok (.iaload, 1) := by decide +kernel
theorem dL_law_946 : decode cL_law 946 = .ok (.aload_n 0, 1) := by decide +kernel
theorem dL_law_947 : decode cL_law 947 = .ok (.iload_n 3, 1) := by decide +kernel
theorem dL_law_948 : decode cL_law 948 = .ok (.iconst 2, 1) := by decide +kernel
theorem dL_law_949 : decode cL_law 949 = .ok (.iadd, 1) := by decide +kernel
theorem dL_law_950 : decode cL_law 950 = .ok (.iaload, 1) := by decide +kernel
theorem dL_law_951 : decode cL_law 951 = .ok (.invokevirtual 121, 3) := by decide +kernel
theorem dL_law_954 : decode cL_law 954 = .ok (.aload_n 2, 1) := by decide +kernel
theorem dL_law_955 : decode cL_law 955 = .ok (.aload_n 0, 1) := by decide +kernel
theorem dL_law_956 : decode cL_law 956 = .ok (.iload_n 3, 1) := by decide +kernel
theorem dL_law_957 : decode cL_law 957 = .ok (.iconst 1, 1) := by decide +kernel
theorem dL_law_958 : decode cL_law 958 = .ok (.iadd, 1) := by decide +kernel
theorem dL_law_959 : decode cL_law 959 = .ok (.iaload, 1) := by decide +kernel
theorem dL_law_960 : decode cL_law 960 = .ok (.aload_n 0, 1) := by decide +kernel
theorem dL_law_961 : decode cL_law 961 = .ok (.iload_n 3, 1) := by decide +kernel
theorem dL_law_962 : decode cL_law 962 = .ok (.iconst 2, 1) := by decide +kernel
theorem dL_law_963 : decode cL_law 963 = .ok (.iadd, 1) := by decide +kernel
theorem dL_law_964 : decode cL_law 964 = .ok (.iaload, 1) := by decide +kernel
theorem dL_law_965 : decode cL_law 965 = .ok (.invokevirtual 124, 3) := by decide +kernel
theorem dL_law_968 : decode cL_law 968 = .ok (.if_icmp .eq 327, 3) := by decide +kernel
theorem dL_law_971 : decode cL_law 971 = .ok (.iconst 0, 1) := by decide +kernel
theorem dL_law_972 : decode cL_law 972 = .ok (.ireturn, 1) := by decide +kernel
theorem dL_law_973 : decode cL_law 973 = .ok (.aload_n 1, 1) := by decide +kernel
theorem dL_law_974 : decode cL_law 974 = .ok (.invokevirtual 125, 3) := by decide +kernel
theorem dL_law_977 : decode cL_law 977 = .ok (.aload_n 2, 1) := by decide +kernel
theorem dL_law_978 : decode cL_law 978 = .ok (.invokevirtual 128, 3) := by decide +kernel
theorem dL_law_981 : decode cL_law 981 = .ok (.if_icmp .eq 314, 3) := by decide +kernel
theorem dL_law_984 : decode cL_law 984 = .ok (.iconst 0, 1) := by decide +kernel
theorem dL_law_985 : decode cL_law 985 = .ok (.ireturn, 1) := by decide +kernel
theorem dL_law_986 : decode cL_law 986 = .ok (.aload_n 1, 1) := by decide +kernel
theorem dL_law_987 : decode cL_law 987 = .ok (.invokevirtual 129, 3) := by decide +kernel
theorem dL_law_990 : decode cL_law 990 = .ok (.aload_n 2, 1) := by decide +kernel
theorem dL_law_991 : decode cL_law 991 = .ok (.invokevirtual 132, 3) := by decide +kernel
theorem dL_law_994 : decode cL_law 994 = .ok (.if_icmp .eq 301, 3) := by decide +kernel
theorem dL_law_997 : decode cL_law 997 = .ok (.iconst 0, 1) := by decide +kernel
theorem dL_law_998 : decode cL_law 998 = .ok (.ireturn, 1) := by decide +kernel
theorem dL_law_999 : decode cL_law 999 = .ok (.aload_n 1, 1) := by decide +kernel
theorem dL_law_1000 : decode cL_law 1000 = .ok (.aload_n 0, 1) := by decide +kernel
theorem dL_law_1001 : decode cL_law 1001 = .ok (.iload_n 3, 1) := by decide +kernel
theorem dL_law_1002 : decode cL_law 1002 = .ok (.iconst 1, 1) := by decide +kernel
theorem dL_law_1003 : decode cL_law 1003 = .ok (.iadd, 1) := by decide +kernel
theorem dL_law_1004 : decode cL_law 1004 = .ok (.iaload, 1) := by decide +kernel
theorem dL_law_1005 : decode cL_law 1005 = .ok (.invokevirtual 133, 3) := by decide +kernel
theorem dL_law_1008 : decode cL_law 1008 = .ok (.aload_n 2, 1) := by decide +kernel
theorem dL_law_1009 : decode cL_law 1009 = .ok (.aload_n 0, 1) := by decide +kernel
theorem dL_law_1010 : decode cL_law 1010 = .ok (.iload_n 3, 1) := by decide +kernel
theorem dL_law_1011 : decode cL_law 1011 = .ok (.iconst 1, 1) := by decide +kernel
theorem dL_law_1012 : decode cL_law 1012 = .ok (.iadd, 1) := by decide +kernel
theorem dL_law_1013 : decode cL_law 1013 = .ok (.iaload, 1) := by decide +kernel
theorem dL_law_1014 : decode cL_law 1014 = .ok (.invokevirtual 136, 3) := by decide +kernel
theorem dL_law_1017 : decode cL_law 1017 = .ok (.if_icmp .eq 278, 3) := by decide +kernel
theorem dL_law_1020 : decode cL_law 1020 = .ok (.iconst 0, 1) := by decide +kernel
theorem dL_law_1021 : decode cL_law 1021 = .ok (.ireturn, 1) := by decide +kernel
theorem dL_law_1022 : decode cL_law 1022 = .ok (.aload_n 1, 1) := by decide +kernel
theorem dL_law_1023 : decode cL_law 1023 = .ok (.aload_n 0, 1) := by decide +kernel
theorem dL_law_1024 : decode cL_law 1024 = .ok (.iload_n 3, 1) := by decide +kernel
theorem dL_law_1025 : decode cL_law 1025 = .ok (.iconst 1, 1) := by decide +kernel
theorem dL_law_1026 : decode cL_law 1026 = .ok (.iadd, 1) := by decide +kernel
theorem dL_law_1027 : decode cL_law 1027 = .ok (.iaload, 1) := by decide +kernel
theorem dL_law_1028 : decode cL_law 1028 = .ok (.invokevirtual 137, 3) := by decide +kernel
theorem dL_law_1031 : decode cL_law 1031 = .ok (.aload_n 2, 1) := by decide +kernel
theorem dL_law_1032 : decode cL_law 1032 = .ok (.aload_n 0, 1) := by decide +kernel
theorem dL_law_1033 : decode cL_law 1033 = .ok (.iload_n 3, 1) := by decide +kernel
theorem dL_law_1034 : decode cL_law 1034 = .ok (.iconst 1, 1) := by decide +kernel
theorem dL_law_1035 : decode cL_law 1035 = .ok (.iadd, 1) := by decide +kernel
theorem dL_law_1036 : decode cL_law 1036 = .ok (.iaload, 1) := by decide +kernel
theorem dL_law_1037 : decode cL_law 1037 = .ok (.invokevirtual 140, 3) := by decide +kernel
theorem dL_law_1040 : decode cL_law 1040 = .ok (.if_icmp .eq 255, 3) := by decide +kernel
theorem dL_law_1043 : decode cL_law 1043 = .ok (.iconst 0, 1) := by decide +kernel
theorem dL_law_1044 : decode cL_law 1044 = .ok (.ireturn, 1) := by decide +kernel
theorem dL_law_1045 : decode cL_law 1045 = .ok (.aload_n 1, 1) := by decide +kernel
theorem dL_law_1046 : decode cL_law 1046 = .ok (.aload_n 0, 1) := by decide +kernel
theorem dL_law_1047 : decode cL_law 1047 = .ok (.iload_n 3, 1) := by decide +kernel
theorem dL_law_1048 : decode cL_law 1048 = .ok (.iconst 1, 1) := by decide +kernel
theorem dL_law_1049 : decode cL_law 1049 = .ok (.iadd, 1) := by decide +kernel
theorem dL_law_1050 : decode cL_law 1050 = .ok (.iaload, 1) := by decide +kernel
theorem dL_law_1051 : decode cL_law 1051 = .ok (.aload_n 0, 1) := by decide +kernel
theorem dL_law_1052 : decode cL_law 1052 = .ok (.iload_n 3, 1) := by decide +kernel
theorem dL_law_1053 : decode cL_law 1053 = .ok (.iconst 2, 1) := by decide +kernel
theorem dL_law_1054 : decode cL_law 1054 = .ok (.iadd, 1) := by decide +kernel
theorem dL_law_1055 : decode cL_law 1055 = .ok (.iaload, 1) := by decide +kernel
theorem dL_law_1056 : decode cL_law 1056 = .ok (.invokevirtual 141, 3) := by decide +kernel
theorem dL_law_1059 : decode cL_law 1059 = .ok (.aload_n 2, 1) := by decide +kernel
theorem dL_law_1060 : decode cL_law 1060 = .ok (.aload_n 0, 1) := by decide +kernel
theorem dL_law_1061 : decode cL_law 1061 = .ok (.iload_n 3, 1) := by decide +kernel
theorem dL_law_1062 : decode cL_law 1062 = .ok (.iconst 1, 1) := by decide +kernel
theorem dL_law_1063 : decode cL_law 1063 = .ok (.iadd, 1) := by decide +kernel
theorem dL_law_1064 : decode cL_law 1064 = .ok (.iaload, 1) := by decide +kernel
theorem dL_law_1065 : decode cL_law 1065 = .ok (.aload_n 0, 1) := by decide +kernel
theorem dL_law_1066 : decode cL_law 1066 = .ok (.iload_n 3, 1) := by decide +kernel
theorem dL_law_1067 : decode cL_law 1067 = .ok (.iconst 2, 1) := by decide +kernel
theorem dL_law_1068 : decode cL_law 1068 = .ok (.iadd, 1) := by decide +kernel
theorem dL_law_1069 : decode cL_law 1069 = .ok (.iaload, 1) := by decide +kernel
theorem dL_law_1070 : decode cL_law 1070 = .ok (.invokevirtual 144, 3) := by decide +kernel
theorem dL_law_1073 : decode cL_law 1073 = .ok (.if_icmp .eq 222, 3) := by decide +kernel
theorem dL_law_1076 : decode cL_law 1076 = .ok (.iconst 0, 1) := by decide +kernel
theorem dL_law_1077 : decode cL_law 1077 = .ok (.ireturn, 1) := by decide +kernel
theorem dL_law_1078 : decode cL_law 1078 = .ok (.aload_n 1, 1) := by decide +kernel
theorem dL_law_1079 : decode cL_law 1079 = .ok (.aload_n 0, 1) := by decide +kernel
theorem dL_law_1080 : decode cL_law 1080 = .ok (.iload_n 3, 1) := by decide +kernel
theorem dL_law_1081 : decode cL_law 1081 = .ok (.iconst 1, 1) := by decide +kernel
theorem dL_law_1082 : decode cL_law 1082 = .ok (.iadd, 1) := by decide +kernel
theorem dL_law_1083 : decode cL_law 1083 = .ok (.iaload, 1) := by decide +kernel
theorem dL_law_1084 : decode cL_law 1084 = .ok (.invokevirtual 145, 3) := by decide +kernel
theorem dL_law_1087 : decode cL_law 1087 = .ok (.aload_n 2, 1) := by decide +kernel
theorem dL_law_1088 : decode cL_law 1088 = .ok (.aload_n 0, 1) := by decide +kernel
theorem dL_law_1089 : decode cL_law 1089 = .ok (.iload_n 3, 1) := by decide +kernel
theorem dL_law_1090 : decode cL_law 1090 = .ok (.iconst 1, 1) := by decide +kernel
theorem dL_law_1091 : decode cL_law 1091 = .ok (.iadd, 1) := by decide +kernel
theorem dL_law_1092 : decode cL_law 1092 = .ok (.iaload, 1) := by decide +kernel
theorem dL_law_1093 : decode cL_law 1093 = .ok (.invokevirtual 148, 3) := by decide +kernel
theorem dL_law_1096 : decode cL_law 1096 = .ok (.if_icmp .eq 199, 3) := by decide +kernel
theorem dL_law_1099 : decode cL_law 1099 = .ok (.iconst 0, 1) := by decide +kernel
theorem dL_law_1100 : decode cL_law 1100 = .ok (.ireturn, 1) := by decide +kernel
theorem dL_law_1101 : decode cL_law 1101 = .ok (.aload_n 1, 1) := by decide +kernel
theorem dL_law_1102 : decode cL_law 1102 = .ok (.aload_n 0, 1) := by decide +kernel
theorem dL_law_1103 : decode cL_law 1103 = .ok (.iload_n 3, 1) := by decide +kernel
theorem dL_law_1104 : decode cL_law 1104 = .ok (.iconst 1, 1) := by decide +kernel
theorem dL_law_1105 : decode cL_law 1105 = .ok (.iadd, 1) := by decide +kernel
theorem dL_law_1106 : decode cL_law 1106 = .ok (.iaload, 1) := by decide +kernel
theorem dL_law_1107 : decode cL_law 1107 = .ok (.invokevirtual 149, 3) := by decide +kernel
theorem dL_law_1110 : decode cL_law 1110 = .ok (.aload_n 2, 1) := by decide +kernel
theorem dL_law_1111 : decode cL_law 1111 = .ok (.aload_n 0, 1) := by decide +kernel
theorem dL_law_1112 : decode cL_law 1112 = .ok (.iload_n 3, 1) := by decide +kernel
theorem dL_law_1113 : decode cL_law 1113 = .ok (.iconst 1, 1) := by decide +kernel
theorem dL_law_1114 : decode cL_law 1114 = .ok (.iadd, 1) := by decide +kernel
theorem dL_law_1115 : decode cL_law 1115 = .ok (.iaload, 1) := by decide +kernel
theorem dL_law_1116 : decode cL_law 1116 = .ok (.invokevirtual 152, 3) := by decide +kernel
theorem dL_law_1119 : decode cL_law 1119 = .ok (.if_icmp .eq 176, 3) := by decide +kernel
theorem dL_law_1122 : decode cL_law 1122 = .ok (.iconst 0, 1) := by decide +kernel
theorem dL_law_1123 : decode cL_law 1123 = .ok (.ireturn, 1) := by decide +kernel
theorem dL_law_1124 : decode cL_law 1124 = .ok (.aload_n 1, 1) := by decide +kernel
theorem dL_law_1125 : decode cL_law 1125 = .ok (.aload_n 0, 1) := by decide +kernel
theorem dL_law_1126 : decode cL_law 1126 = .ok (.iload_n 3, 1) := by decide +kernel
theorem dL_law_1127 : decode cL_law 1127 = .ok (.iconst 1, 1) := by decide +kernel
theorem dL_law_1128 : decode cL_law 1128 = .ok (.iadd, 1) := by decide +kernel
theorem dL_law_1129 : decode cL_law 1129 = .ok (.iaload, 1) := by decide +kernel
theorem dL_law_1130 : decode cL_law 1130 = .ok (.invokevirtual 153, 3) := by decide +kernel
theorem dL_law_1133 : decode cL_law 1133 = .ok (.aload_n 2, 1) := by decide +kernel
theorem dL_law_1134 : decode cL_law 1134 = .ok (.aload_n 0, 1) := by decide +kernel
theorem dL_law_1135 : decode cL_law 1135 = .ok (.iload_n 3, 1) := by decide +kernel
theorem dL_law_1136 : decode cL_law 1136 = .ok (.iconst 1, 1) := by decide +kernel
theorem dL_law_1137 : decode cL_law 1137 = .ok (.iadd, 1) := by decide +kernel
theorem dL_law_1138 : decode cL_law 1138 = .ok (.iaload, 1) := by decide +kernel
theorem dL_law_1139 : decode cL_law 1139 = .ok (.invokevirtual 156, 3) := by decide +kernel
theorem dL_law_1142 : decode cL_law 1142 = .ok (.if_icmp .eq 153, 3) := by decide +kernel
theorem dL_law_1145 : decode cL_law 1145 = .ok (.iconst 0, 1) := by decide +kernel
theorem dL_law_1146 : decode cL_law 1146 = .ok (.ireturn, 1) := by decide +kernel
theorem dL_law_1147 : decode cL_law 1147 = .ok (.aload_n 1, 1) := by decide +kernel
theorem dL_law_1148 : decode cL_law 1148 = .ok (.aload_n 0, 1) := by decide +kernel
theorem dL_law_1149 : decode cL_law 1149 = .ok (.iload_n 3, 1) := by decide +kernel
theorem dL_law_1150 : decode cL_law 1150 = .ok (.iconst 1, 1) := by decide +kernel
theorem dL_law_1151 : decode cL_law 1151 = .ok (.iadd, 1) := by decide +kernel
theorem dL_law_1152 : decode cL_law 1152 = .ok (.iaload, 1) := by decide +kernel
theorem dL_law_1153 : decode cL_law 1153 = .ok (.aload_n 0, 1) := by decide +kernel
theorem dL_law_1154 : decode cL_law 1154 = .ok (.iload_n 3, 1) := by decide +kernel
theorem dL_law_1155 : decode cL_law 1155 = .ok (.iconst 2, 1) := by decide +kernel
theorem dL_law_1156 : decode cL_law 1156 = .ok (.iadd, 1) := by decide +kernel
theorem dL_law_1157 : decode cL_law 1157 = .ok (.iaload, 1) := by decide +kernel
theorem dL_law_1158 : decode cL_law 1158 = .ok (.invokevirtual 157, 3) := by decide +kernel
theorem dL_law_1161 : decode cL_law 1161 = .ok (.aload_n 2, 1) := by decide +kernel
theorem dL_law_1162 : decode cL_law 1162 = .ok (.aload_n 0, 1) := by decide +kernel
theorem dL_law_1163 : decode cL_law 1163 = .ok (.iload_n 3, 1) := by decide +kernel
theorem dL_law_1164 : decode cL_law 1164 = .ok (.iconst 1, 1) := by decide +kernel
theorem dL_law_1165 : decode cL_law 1165 = .ok (.iadd, 1) := by decide +kernel
theorem dL_law_1166 : decode cL_law 1166 = .ok (.iaload, 1) := by decide +kernel
theorem dL_law_1167 : decode cL_law 1167 = .ok (.aload_n 0, 1) := by decide +kernel
theorem dL_law_1168 : decode cL_law 1168 = .ok (.iload_n 3, 1) := by decide +kernel
theorem dL_law_1169 : decode cL_law 1169 = .ok (.iconst 2, 1) := by decide +kernel
theorem dL_law_1170 : decode cL_law 1170 = .ok (.iadd, 1) := by decide +kernel
theorem dL_law_1171 : decode cL_law 1171 = .ok (.iaload, 1) := by decide +kernel
theorem dL_law_1172 : decode cL_law 1172 = .ok (.invokevirtual 160, 3) := by decide +kernel
theorem dL_law_1175 : decode cL_law 1175 = .ok (.if_icmp .eq 120, 3) := by decide +kernel
theorem dL_law_1178 : decode cL_law 1178 = .ok (.iconst 0, 1) := by decide +kernel
theorem dL_law_1179 : decode cL_law 1179 = .ok (.ireturn, 1) := by decide +kernel
theorem dL_law_1180 : decode cL_law 1180 = .ok (.aload_n 1, 1) := by decide +kernel
theorem dL_law_1181 : decode cL_law 1181 = .ok (.aload_n 0, 1) := by decide +kernel
theorem dL_law_1182 : decode cL_law 1182 = .ok (.iload_n 3, 1) := by decide +kernel
theorem dL_law_1183 : decode cL_law 1183 = .ok (.iconst 1, 1) := by decide +kernel
theorem dL_law_1184 : decode cL_law 1184 = .ok (.iadd, 1) := by decide +kernel
theorem dL_law_1185 : decode cL_law 1185 = .ok (.iaload, 1) := by decide +kernel
theorem dL_law_1186 : decode cL_law 1186 = .ok (.invokevirtual 161, 3) := by decide +kernel
theorem dL_law_1189 : decode cL_law 1189 = .ok (.aload_n 2, 1) := by decide +kernel
theorem dL_law_1190 : decode cL_law 1190 = .ok (.aload_n 0, 1) := by decide +kernel
theorem dL_law_1191 : decode cL_law 1191 = .ok (.iload_n 3, 1) := by decide +kernel
theorem dL_law_1192 : decode cL_law 1192 = .ok (.iconst 1, 1) := by decide +kernel
theorem dL_law_1193 : decode cL_law 1193 = .ok (.iadd, 1) := by decide +kernel
theorem dL_law_1194 : decode cL_law 1194 = .ok (.iaload, 1) := by decide +kernel
theorem dL_law_1195 : decode cL_law 1195 = .ok (.invokevirtual 164, 3) := by decide +kernel
theorem dL_law_1198 : decode cL_law 1198 = .ok (.if_icmp .eq 97, 3) := by decide +kernel
theorem dL_law_1201 : decode cL_law 1201 = .ok (.iconst 0, 1) := by decide +kernel
theorem dL_law_1202 : decode cL_law 1202 = .ok (.ireturn, 1) := by decide +kernel
theorem dL_law_1203 : decode cL_law 1203 = .ok (.aload_n 1, 1) := by decide +kernel
theorem dL_law_1204 : decode cL_law 1204 = .ok (.aload_n 0, 1) := by decide +kernel
theorem dL_law_1205 : decode cL_law 1205 = .ok (.iload_n 3, 1) := by decide +kernel
theorem dL_law_1206 : decode cL_law 1206 = .ok (.iconst 1, 1) := by decide +kernel
theorem dL_law_1207 : decode cL_law 1207 = .ok (.iadd, 1) := by decide +kernel
theorem dL_law_1208 : decode cL_law 1208 = .ok (.iaload, 1) := by decide +kernel
theorem dL_law_1209 : decode cL_law 1209 = .ok (.invokevirtual 165, 3) := by decide +kernel
theorem dL_law_1212 : decode cL_law 1212 = .ok (.aload_n 2, 1) := by decide +kernel
theorem dL_law_1213 : decode cL_law 1213 = .ok (.aload_n 0, 1) := by decide +kernel
theorem dL_law_1214 : decode cL_law 1214 = .ok (.iload_n 3, 1) := by decide +kernel
theorem dL_law_1215 : decode cL_law 1215 = .ok (.iconst 1, 1) := by decide +kernel
theorem dL_law_1216 : decode cL_law 1216 = .ok (.iadd, 1) := by decide +kernel
theorem dL_law_1217 : decode cL_law 1217 = .ok (.iaload, 1) := by decide +kernel
theorem dL_law_1218 : decode cL_law 1218 = .ok (.invokevirtual 168, 3) := by decide +kernel
theorem dL_law_1221 : decode cL_law 1221 = .ok (.if_icmp .eq 74, 3) := by decide +kernel
theorem dL_law_1224 : decode cL_law 1224 = .ok (.iconst 0, 1) := by decide +kernel
theorem dL_law_1225 : decode cL_law 1225 = .ok (.ireturn, 1) := by decide +kernel
theorem dL_law_1226 : decode cL_law 1226 = .ok (.aload_n 1, 1) := by decide +kernel
theorem dL_law_1227 : decode cL_law 1227 = .ok (.aload_n 0, 1) := by decide +kernel
theorem dL_law_1228 : decode cL_law 1228 = .ok (.iload_n 3, 1) := by decide +kernel
theorem dL_law_1229 : decode cL_law 1229 = .ok (.iconst 1, 1) := by decide +kernel
theorem dL_law_1230 : decode cL_law 1230 = .ok (.iadd, 1) := by decide +kernel
theorem dL_law_1231 : decode cL_law 1231 = .ok (.iaload, 1) := by decide +kernel
theorem dL_law_1232 : decode cL_law 1232 = .ok (.invokevirtual 169, 3) := by decide +kernel
theorem dL_law_1235 : decode cL_law 1235 = .ok (.aload_n 2, 1) := by decide +kernel
theorem dL_law_1236 : decode cL_law 1236 = .ok (.aload_n 0, 1) := by decide +kernel
theorem dL_law_1237 : decode cL_law 1237 = .ok (.iload_n 3, 1) := by decide +kernel
theorem dL_law_1238 : decode cL_law 1238 = .ok (.iconst 1, 1) := by decide +kernel
theorem dL_law_1239 : decode cL_law 1239 = .ok (.iadd, 1) := by decide +kernel
theorem dL_law_1240 : decode cL_law 1240 = .ok (.iaload, 1) := by decide +kernel
theorem dL_law_1241 : decode cL_law 1241 = .ok (.invokevirtual 172, 3) := by decide +kernel
theorem dL_law_1244 : decode cL_law 1244 = .ok (.if_icmp .eq 51, 3) := by decide +kernel
theorem dL_law_1247 : decode cL_law 1247 = .ok (.iconst 0, 1) := by decide +kernel
theorem dL_law_1248 : decode cL_law 1248 = .ok (.ireturn, 1) := by decide +kernel
theorem dL_law_1249 : decode cL_law 1249 = .ok (.aload_n 1, 1) := by decide +kernel
theorem dL_law_1250 : decode cL_law 1250 = .ok (.aload_n 0, 1) := by decide +kernel
theorem dL_law_1251 : decode cL_law 1251 = .ok (.iload_n 3, 1) := by decide +kernel
theorem dL_law_1252 : decode cL_law 1252 = .ok (.iconst 1, 1) := by decide +kernel
theorem dL_law_1253 : decode cL_law 1253 = .ok (.iadd, 1) := by decide +kernel
theorem dL_law_1254 : decode cL_law 1254 = .ok (.iaload, 1) := by decide +kernel
theorem dL_law_1255 : decode cL_law 1255 = .ok (.invokevirtual 173, 3) := by decide +kernel
theorem dL_law_1258 : decode cL_law 1258 = .ok (.aload_n 2, 1) := by decide +kernel
theorem dL_law_1259 : decode cL_law 1259 = .ok (.aload_n 0, 1) := by decide +kernel
theorem dL_law_1260 : decode cL_law 1260 = .ok (.iload_n 3, 1) := by decide +kernel
theorem dL_law_1261 : decode cL_law 1261 = .ok (.iconst 1, 1) := by decide +kernel
theorem dL_law_1262 : decode cL_law 1262 = .ok (.iadd, 1) := by decide +kernel
theorem dL_law_1263 : decode cL_law 1263 = .ok (.iaload, 1) := by decide +kernel
theorem dL_law_1264 : decode cL_law 1264 = .ok (.invokevirtual 176, 3) := by decide +kernel
theorem dL_law_1267 : decode cL_law 1267 = .ok (.if_icmp .eq 28, 3) := by decide +kernel
theorem dL_law_1270 : decode cL_law 1270 = .ok (.iconst 0, 1) := by decide +kernel
theorem dL_law_1271 : decode cL_law 1271 = .ok (.ireturn, 1) := by decide +kernel
theorem dL_law_1272 : decode cL_law 1272 = .ok (.aload_n 1, 1) := by decide +kernel
theorem dL_law_1273 : decode cL_law 1273 = .ok (.aload_n 0, 1) := by decide +kernel
theorem dL_law_1274 : decode cL_law 1274 = .ok (.iload_n 3, 1) := by decide +kernel
theorem dL_law_1275 : decode cL_law 1275 = .ok (.iconst 1, 1) := by decide +kernel
theorem dL_law_1276 : decode cL_law 1276 = .ok (.iadd, 1) := by decide +kernel
theorem dL_law_1277 : decode cL_law 1277 = .ok (.iaload, 1) := by decide +kernel
theorem dL_law_1278 : decode cL_law 1278 = .ok (.invokevirtual 177, 3) := by decide +kernel
theorem dL_law_1281 : decode cL_law 1281 = .ok (.aload_n 2, 1) := by decide +kernel
theorem dL_law_1282 : decode cL_law 1282 = .ok (.aload_n 0, 1) := by decide +kernel
theorem dL_law_1283 : decode cL_law 1283 = .ok (.iload_n 3, 1) := by decide +kernel
theorem dL_law_1284 : decode cL_law 1284 = .ok (.iconst 1, 1) := by decide +kernel
theorem dL_law_1285 : decode cL_law 1285 = .ok (.iadd, 1) := by decide +kernel
theorem dL_law_1286 : decode cL_law 1286 = .ok (.iaload, 1) := by decide +kernel
theorem dL_law_1287 : decode cL_law 1287 = .ok (.invokevirtual 180, 3) := by decide +kernel
theorem dL_law_1290 : decode cL_law 1290 = .ok (.if_icmp .eq 5, 3) := by decide +kernel
theorem dL_law_1293 : decode cL_law 1293 = .ok (.iconst 0, 1) := by decide +kernel
theorem dL_law_1294 : decode cL_law 1294 = .ok (.ireturn, 1) := by decide +kernel
theorem dL_law_1295 : decode cL_law 1295 = .ok (.iinc 3 6, 3) := by decide +kernel
theorem dL_law_1298 : decode cL_law 1298 = .ok (.goto (-1280), 3) := by decide +kernel
theorem dL_law_1301 : decode cL_law 1301 = .ok (.iconst 1, 1) := by decide +kernel
theorem dL_law_1302 : decode cL_law 1302 = .ok (.ireturn, 1) := by decide +kernel
