theorem dX7_greatestGain_15 : decode k_X7_greatestGain.2.1 15 = .ok (.iload 4, 2) := by decide +kernel
theorem dX7_greatestGain_17 : decode k_X7_greatestGain.2.1 17 = .ok (.invokevirtual 68, 3) := by decide +kernel
theorem dX7_greatestGain_20 : decode k_X7_greatestGain.2.1 20 = .ok (.istore 5, 2) := by decide +kernel
theorem dX7_greatestGain_22 : decode k_X7_greatestGain.2.1 22 = .ok (.iload_n 2, 1) := by decide +kernel
theorem dX7_greatestGain_23 : decode k_X7_greatestGain.2.1 23 = .ok (.ifCond .gt 12, 3) := by decide +kernel
theorem dX7_greatestGain_26 : decode k_X7_greatestGain.2.1 26 = .ok (.aload_n 0, 1) := by decide +kernel
theorem dX7_greatestGain_27 : decode k_X7_greatestGain.2.1 27 = .ok (.iload 5, 2) := by decide +kernel
theorem dX7_greatestGain_29 : decode k_X7_greatestGain.2.1 29 = .ok (.invokevirtual 90, 3) := by decide +kernel
theorem dX7_greatestGain_32 : decode k_X7_greatestGain.2.1 32 = .ok (.ifCond .eq 15, 3) := by decide +kernel
theorem dX7_greatestGain_35 : decode k_X7_greatestGain.2.1 35 = .ok (.iload_n 3, 1) := by decide +kernel
theorem dX7_greatestGain_36 : decode k_X7_greatestGain.2.1 36 = .ok (.aload_n 0, 1) := by decide +kernel
theorem dX7_greatestGain_37 : decode k_X7_greatestGain.2.1 37 = .ok (.aload_n 1, 1) := by decide +kernel
theorem dX7_greatestGain_38 : decode k_X7_greatestGain.2.1 38 = .ok (.iload 5, 2) := by decide +kernel
theorem dX7_greatestGain_40 : decode k_X7_greatestGain.2.1 40 = .ok (.invokevirtual 94, 3) := by decide +kernel
theorem dX7_greatestGain_43 : decode k_X7_greatestGain.2.1 43 = .ok (.invokestatic 97, 3) := by decide +kernel
theorem dX7_greatestGain_46 : decode k_X7_greatestGain.2.1 46 = .ok (.istore_n 3, 1) := by decide +kernel
theorem dX7_greatestGain_47 : decode k_X7_greatestGain.2.1 47 = .ok (.iinc 4 1, 3) := by decide +kernel
theorem dX7_greatestGain_50 : decode k_X7_greatestGain.2.1 50 = .ok (.goto (-45), 3) := by decide +kernel
theorem dX7_greatestGain_53 : decode k_X7_greatestGain.2.1 53 = .ok (.iload_n 3, 1) := by decide +kernel
theorem dX7_greatestGain_54 : decode k_X7_greatestGain.2.1 54 = .ok (.ireturn, 1) := by decide +kernel
theorem dX7_leastBehind_0 : decode k_X7_leastBehind.2.1 0 = .ok (.iload 4, 2) := by decide +kernel
theorem dX7_leastBehind_2 : decode k_X7_leastBehind.2.1 2 = .ok (.ifCond .ne 13, 3) := by decide +kernel
theorem dX7_leastBehind_5 : decode k_X7_leastBehind.2.1 5 = .ok (.aload_n 0, 1) := by decide +kernel
theorem dX7_leastBehind_6 : decode k_X7_leastBehind.2.1 6 = .ok (.iload_n 2, 1) := by decide +kernel
theorem dX7_leastBehind_7 : decode k_X7_leastBehind.2.1 7 = .ok (.invokevirtual 90, 3) := by decide +kernel
theorem dX7_leastBehind_10 : decode k_X7_leastBehind.2.1 10 = .ok (.ifCond .ne 5, 3) := by decide +kernel
theorem dX7_leastBehind_13 : decode k_X7_leastBehind.2.1 13 = .ok (.iload_n 3, 1) := by decide +kernel
theorem dX7_leastBehind_14 : decode k_X7_leastBehind.2.1 14 = .ok (.ireturn, 1) := by decide +kernel
theorem dX7_leastBehind_15 : decode k_X7_leastBehind.2.1 15 = .ok (.iload_n 2, 1) := by decide +kernel
theorem dX7_leastBehind_16 : decode k_X7_leastBehind.2.1 16 = .ok (.invokestatic 100, 3) := by decide +kernel
theorem dX7_leastBehind_19 : decode k_X7_leastBehind.2.1 19 = .ok (.istore 5, 2) := by decide +kernel
theorem dX7_leastBehind_21 : decode k_X7_leastBehind.2.1 21 = .ok (.iload_n 2, 1) := by decide +kernel
theorem dX7_leastBehind_22 : decode k_X7_leastBehind.2.1 22 = .ok (.invokestatic 103, 3) := by decide +kernel
theorem dX7_leastBehind_25 : decode k_X7_leastBehind.2.1 25 = .ok (.istore 6, 2) := by decide +kernel
theorem dX7_leastBehind_27 : decode k_X7_leastBehind.2.1 27 = .ok (.aload_n 0, 1) := by decide +kernel
theorem dX7_leastBehind_28 : decode k_X7_leastBehind.2.1 28 = .ok (.getfield 30, 3) := by decide +kernel
theorem dX7_leastBehind_31 : decode k_X7_leastBehind.2.1 31 = .ok (.aload_n 1, 1) := by decide +kernel
theorem dX7_leastBehind_32 : decode k_X7_leastBehind.2.1 32 = .ok (.invokevirtual 47, 3) := by decide +kernel
theorem dX7_leastBehind_35 : decode k_X7_leastBehind.2.1 35 = .ok (.invokevirtual 106, 3) := by decide +kernel
theorem dX7_leastBehind_38 : decode k_X7_leastBehind.2.1 38 = .ok (.aload_n 0, 1) := by decide +kernel
theorem dX7_leastBehind_39 : decode k_X7_leastBehind.2.1 39 = .ok (.getfield 30, 3) := by decide +kernel
theorem dX7_leastBehind_42 : decode k_X7_leastBehind.2.1 42 = .ok (.iload 5, 2) := by decide +kernel
theorem dX7_leastBehind_44 : decode k_X7_leastBehind.2.1 44 = .ok (.iload 6, 2) := by decide +kernel
theorem dX7_leastBehind_46 : decode k_X7_leastBehind.2.1 46 = .ok (.aload_n 1, 1) := by decide +kernel
theorem dX7_leastBehind_47 : decode k_X7_leastBehind.2.1 47 = .ok (.iload 5, 2) := by decide +kernel
theorem dX7_leastBehind_49 : decode k_X7_leastBehind.2.1 49 = .ok (.iload 6, 2) := by decide +kernel
theorem dX7_leastBehind_51 : decode k_X7_leastBehind.2.1 51 = .ok (.invokevirtual 109, 3) := by decide +kernel
theorem dX7_leastBehind_54 : decode k_X7_leastBehind.2.1 54 = .ok (.invokevirtual 112, 3) := by decide +kernel
theorem dX7_leastBehind_57 : decode k_X7_leastBehind.2.1 57 = .ok (.aload_n 0, 1) := by decide +kernel
theorem dX7_leastBehind_58 : decode k_X7_leastBehind.2.1 58 = .ok (.getfield 18, 3) := by decide +kernel
theorem dX7_leastBehind_61 : decode k_X7_leastBehind.2.1 61 = .ok (.aload_n 0, 1) := by decide +kernel
theorem dX7_leastBehind_62 : decode k_X7_leastBehind.2.1 62 = .ok (.getfield 30, 3) := by decide +kernel
theorem dX7_leastBehind_65 : decode k_X7_leastBehind.2.1 65 = .ok (.invokevirtual 51, 3) := by decide +kernel
theorem dX7_leastBehind_68 : decode k_X7_leastBehind.2.1 68 = .ok (.aload_n 0, 1) := by decide +kernel
theorem dX7_leastBehind_69 : decode k_X7_leastBehind.2.1 69 = .ok (.iload_n 2, 1) := by decide +kernel
theorem dX7_leastBehind_70 : decode k_X7_leastBehind.2.1 70 = .ok (.invokevirtual 90, 3) := by decide +kernel
theorem dX7_leastBehind_73 : decode k_X7_leastBehind.2.1 73 = .ok (.ifCond .eq 8, 3) := by decide +kernel
theorem dX7_leastBehind_76 : decode k_X7_leastBehind.2.1 76 = .ok (.iload 4, 2) := by decide +kernel
theorem dX7_leastBehind_78 : decode k_X7_leastBehind.2.1 78 = .ok (.goto 7, 3) := by decide +kernel
theorem dX7_leastBehind_81 : decode k_X7_leastBehind.2.1 81 = .ok (.iload 4, 2) := by decide +kernel
theorem dX7_leastBehind_83 : decode k_X7_leastBehind.2.1 83 = .ok (.iconst 1, 1) := by decide +kernel
theorem dX7_leastBehind_84 : decode k_X7_leastBehind.2.1 84 = .ok (.isub, 1) := by decide +kernel
theorem dX7_leastBehind_85 : decode k_X7_leastBehind.2.1 85 = .ok (.istore 7, 2) := by decide +kernel
theorem dX7_leastBehind_87 : decode k_X7_leastBehind.2.1 87 = .ok (.iload_n 3, 1) := by decide +kernel
theorem dX7_leastBehind_88 : decode k_X7_leastBehind.2.1 88 = .ok (.aload_n 0, 1) := by decide +kernel
theorem dX7_leastBehind_89 : decode k_X7_leastBehind.2.1 89 = .ok (.aload_n 0, 1) := by decide +kernel
theorem dX7_leastBehind_90 : decode k_X7_leastBehind.2.1 90 = .ok (.getfield 12, 3) := by decide +kernel
theorem dX7_leastBehind_93 : decode k_X7_leastBehind.2.1 93 = .ok (.iload_n 2, 1) := by decide +kernel
theorem dX7_leastBehind_94 : decode k_X7_leastBehind.2.1 94 = .ok (.invokevirtual 94, 3) := by decide +kernel
theorem dX7_leastBehind_97 : decode k_X7_leastBehind.2.1 97 = .ok (.isub, 1) := by decide +kernel
theorem dX7_leastBehind_98 : decode k_X7_leastBehind.2.1 98 = .ok (.aload_n 0, 1) := by decide +kernel
theorem dX7_leastBehind_99 : decode k_X7_leastBehind.2.1 99 = .ok (.aload_n 0, 1) := by decide +kernel
theorem dX7_leastBehind_100 : decode k_X7_leastBehind.2.1 100 = .ok (.getfield 18, 3) := by decide +kernel
theorem dX7_leastBehind_103 : decode k_X7_leastBehind.2.1 103 = .ok (.iload 7, 2) := by decide +kernel
theorem dX7_leastBehind_105 : decode k_X7_leastBehind.2.1 105 = .ok (.invokevirtual 55, 3) := by decide +kernel
theorem dX7_leastBehind_108 : decode k_X7_leastBehind.2.1 108 = .ok (.isub, 1) := by decide +kernel
theorem dX7_leastBehind_109 : decode k_X7_leastBehind.2.1 109 = .ok (.ireturn, 1) := by decide +kernel
theorem dX8_init_0 : decode k_X8_init.2.1 0 = .ok (.aload_n 0, 1) := by decide +kernel
theorem dX8_init_1 : decode k_X8_init.2.1 1 = .ok (.invokespecial 3, 3) := by decide +kernel
theorem dX8_init_4 : decode k_X8_init.2.1 4 = .ok (.aload_n 0, 1) := by decide +kernel
theorem dX8_init_5 : decode k_X8_init.2.1 5 = .ok (.bipush 86, 2) := by decide +kernel
theorem dX8_init_7 : decode k_X8_init.2.1 7 = .ok (.newarray .int, 2) := by decide +kernel
theorem dX8_init_9 : decode k_X8_init.2.1 9 = .ok (.putfield 9, 3) := by decide +kernel
theorem dX8_init_12 : decode k_X8_init.2.1 12 = .ok (.aload_n 0, 1) := by decide +kernel
theorem dX8_init_13 : decode k_X8_init.2.1 13 = .ok (.bipush 86, 2) := by decide +kernel
theorem dX8_init_15 : decode k_X8_init.2.1 15 = .ok (.newarray .int, 2) := by decide +kernel
theorem dX8_init_17 : decode k_X8_init.2.1 17 = .ok (.putfield 15, 3) := by decide +kernel
theorem dX8_init_20 : decode k_X8_init.2.1 20 = .ok (.aload_n 0, 1) := by decide +kernel
theorem dX8_init_21 : decode k_X8_init.2.1 21 = .ok (.new 18, 3) := by decide +kernel
theorem dX8_init_24 : decode k_X8_init.2.1 24 = .ok (.dup, 1) := by decide +kernel
theorem dX8_init_25 : decode k_X8_init.2.1 25 = .ok (.bipush 60, 2) := by decide +kernel
theorem dX8_init_27 : decode k_X8_init.2.1 27 = .ok (.invokespecial 20, 3) := by decide +kernel
theorem dX8_init_30 : decode k_X8_init.2.1 30 = .ok (.putfield 23, 3) := by decide +kernel
theorem dX8_init_33 : decode k_X8_init.2.1 33 = .ok (.aload_n 0, 1) := by decide +kernel
theorem dX8_init_34 : decode k_X8_init.2.1 34 = .ok (.iconst (-1), 1) := by decide +kernel
theorem dX8_init_35 : decode k_X8_init.2.1 35 = .ok (.putfield 27, 3) := by decide +kernel
theorem dX8_init_38 : decode k_X8_init.2.1 38 = .ok (.aload_n 0, 1) := by decide +kernel
theorem dX8_init_39 : decode k_X8_init.2.1 39 = .ok (.iconst 0, 1) := by decide +kernel
theorem dX8_init_40 : decode k_X8_init.2.1 40 = .ok (.putfield 31, 3) := by decide +kernel
theorem dX8_init_43 : decode k_X8_init.2.1 43 = .ok (.return_, 1) := by decide +kernel
theorem dX8_learn_0 : decode k_X8_learn.2.1 0 = .ok (.aload_n 0, 1) := by decide +kernel
theorem dX8_learn_1 : decode k_X8_learn.2.1 1 = .ok (.getfield 23, 3) := by decide +kernel
theorem dX8_learn_4 : decode k_X8_learn.2.1 4 = .ok (.invokevirtual 34, 3) := by decide +kernel
theorem dX8_learn_7 : decode k_X8_learn.2.1 7 = .ok (.iconst 0, 1) := by decide +kernel
theorem dX8_learn_8 : decode k_X8_learn.2.1 8 = .ok (.istore_n 2, 1) := by decide +kernel
theorem dX8_learn_9 : decode k_X8_learn.2.1 9 = .ok (.iload_n 2, 1) := by decide +kernel
theorem dX8_learn_10 : decode k_X8_learn.2.1 10 = .ok (.bipush 86, 2) := by decide +kernel
theorem dX8_learn_12 : decode k_X8_learn.2.1 12 = .ok (.if_icmp .ge 34, 3) := by decide +kernel
theorem dX8_learn_15 : decode k_X8_learn.2.1 15 = .ok (.aload_n 0, 1) := by decide +kernel
theorem dX8_learn_16 : decode k_X8_learn.2.1 16 = .ok (.getfield 9, 3) := by decide +kernel
theorem dX8_learn_19 : decode k_X8_learn.2.1 19 = .ok (.iload_n 2, 1) := by decide +kernel
theorem dX8_learn_20 : decode k_X8_learn.2.1 20 = .ok (.iload_n 2, 1) := by decide +kernel
theorem dX8_learn_21 : decode k_X8_learn.2.1 21 = .ok (.invokestatic 37, 3) := by decide +kernel
theorem dX8_learn_24 : decode k_X8_learn.2.1 24 = .ok (.ifCond .eq 7, 3) := by decide +kernel
theorem dX8_learn_27 : decode k_X8_learn.2.1 27 = .ok (.iconst 1, 1) := by decide +kernel
theorem dX8_learn_28 : decode k_X8_learn.2.1 28 = .ok (.goto 4, 3) := by decide +kernel
theorem dX8_learn_31 : decode k_X8_learn.2.1 31 = .ok (.iconst 0, 1) := by decide +kernel
theorem dX8_learn_32 : decode k_X8_learn.2.1 32 = .ok (.iastore, 1) := by decide +kernel
theorem dX8_learn_33 : decode k_X8_learn.2.1 33 = .ok (.aload_n 0, 1) := by decide +kernel
theorem dX8_learn_34 : decode k_X8_learn.2.1 34 = .ok (.getfield 15, 3) := by decide +kernel
theorem dX8_learn_37 : decode k_X8_learn.2.1 37 = .ok (.iload_n 2, 1) := by decide +kernel
theorem dX8_learn_38 : decode k_X8_learn.2.1 38 = .ok (.iconst 0, 1) := by decide +kernel
theorem dX8_learn_39 : decode k_X8_learn.2.1 39 = .ok (.iastore, 1) := by decide +kernel
theorem dX8_learn_40 : decode k_X8_learn.2.1 40 = .ok (.iinc 2 1, 3) := by decide +kernel
theorem dX8_learn_43 : decode k_X8_learn.2.1 43 = .ok (.goto (-34), 3) := by decide +kernel
theorem dX8_learn_46 : decode k_X8_learn.2.1 46 = .ok (.iconst 0, 1) := by decide +kernel
theorem dX8_learn_47 : decode k_X8_learn.2.1 47 = .ok (.istore_n 2, 1) := by decide +kernel
theorem dX8_learn_48 : decode k_X8_learn.2.1 48 = .ok (.iload_n 2, 1) := by decide +kernel
theorem dX8_learn_49 : decode k_X8_learn.2.1 49 = .ok (.bipush 60, 2) := by decide +kernel
theorem dX8_learn_51 : decode k_X8_learn.2.1 51 = .ok (.if_icmp .ge 31, 3) := by decide +kernel
theorem dX8_learn_54 : decode k_X8_learn.2.1 54 = .ok (.aload_n 0, 1) := by decide +kernel
theorem dX8_learn_55 : decode k_X8_learn.2.1 55 = .ok (.aload_n 1, 1) := by decide +kernel
theorem dX8_learn_56 : decode k_X8_learn.2.1 56 = .ok (.invokevirtual 41, 3) := by decide +kernel
theorem dX8_learn_59 : decode k_X8_learn.2.1 59 = .ok (.istore_n 3, 1) := by decide +kernel
theorem dX8_learn_60 : decode k_X8_learn.2.1 60 = .ok (.iload_n 3, 1) := by decide +kernel
theorem dX8_learn_61 : decode k_X8_learn.2.1 61 = .ok (.iconst (-1), 1) := by decide +kernel
theorem dX8_learn_62 : decode k_X8_learn.2.1 62 = .ok (.if_icmp .ne 4, 3) := by decide +kernel
theorem dX8_learn_65 : decode k_X8_learn.2.1 65 = .ok (.return_, 1) := by decide +kernel
theorem dX8_learn_66 : decode k_X8_learn.2.1 66 = .ok (.aload_n 0, 1) := by decide +kernel
theorem dX8_learn_67 : decode k_X8_learn.2.1 67 = .ok (.iload_n 3, 1) := by decide +kernel
theorem dX8_learn_68 : decode k_X8_learn.2.1 68 = .ok (.aload_n 1, 1) := by decide +kernel
theorem dX8_learn_69 : decode k_X8_learn.2.1 69 = .ok (.iload_n 3, 1) := by decide +kernel
theorem dX8_learn_70 : decode k_X8_learn.2.1 70 = .ok (.invokevirtual 45, 3) := by decide +kernel
theorem dX8_learn_73 : decode k_X8_learn.2.1 73 = .ok (.invokevirtual 51, 3) := by decide +kernel
theorem dX8_learn_76 : decode k_X8_learn.2.1 76 = .ok (.iinc 2 1, 3) := by decide +kernel
theorem dX8_learn_79 : decode k_X8_learn.2.1 79 = .ok (.goto (-31), 3) := by decide +kernel
theorem dX8_learn_82 : decode k_X8_learn.2.1 82 = .ok (.return_, 1) := by decide +kernel
theorem dX8_told_0 : decode k_X8_told.2.1 0 = .ok (.aload_n 0, 1) := by decide +kernel
theorem dX8_told_1 : decode k_X8_told.2.1 1 = .ok (.getfield 23, 3) := by decide +kernel
theorem dX8_told_4 : decode k_X8_told.2.1 4 = .ok (.invokevirtual 55, 3) := by decide +kernel
theorem dX8_told_7 : decode k_X8_told.2.1 7 = .ok (.ireturn, 1) := by decide +kernel
theorem dX8_toldAt_0 : decode k_X8_toldAt.2.1 0 = .ok (.aload_n 0, 1) := by decide +kernel
theorem dX8_toldAt_1 : decode k_X8_toldAt.2.1 1 = .ok (.getfield 23, 3) := by decide +kernel
theorem dX8_toldAt_4 : decode k_X8_toldAt.2.1 4 = .ok (.iload_n 1, 1) := by decide +kernel
theorem dX8_toldAt_5 : decode k_X8_toldAt.2.1 5 = .ok (.invokevirtual 59, 3) := by decide +kernel
theorem dX8_toldAt_8 : decode k_X8_toldAt.2.1 8 = .ok (.ireturn, 1) := by decide +kernel
theorem dX8_lettersOf_0 : decode k_X8_lettersOf.2.1 0 = .ok (.iload_n 1, 1) := by decide +kernel
theorem dX8_lettersOf_1 : decode k_X8_lettersOf.2.1 1 = .ok (.ifCond .lt 18, 3) := by decide +kernel
theorem dX8_lettersOf_4 : decode k_X8_lettersOf.2.1 4 = .ok (.iload_n 1, 1) := by decide +kernel
theorem dX8_lettersOf_5 : decode k_X8_lettersOf.2.1 5 = .ok (.bipush 86, 2) := by decide +kernel
theorem dX8_lettersOf_7 : decode k_X8_lettersOf.2.1 7 = .ok (.if_icmp .ge 12, 3) := by decide +kernel
theorem dX8_lettersOf_10 : decode k_X8_lettersOf.2.1 10 = .ok (.aload_n 0, 1) := by decide +kernel
theorem dX8_lettersOf_11 : decode k_X8_lettersOf.2.1 11 = .ok (.getfield 9, 3) := by decide +kernel
theorem dX8_lettersOf_14 : decode k_X8_lettersOf.2.1 14 = .ok (.iload_n 1, 1) := by decide +kernel
theorem dX8_lettersOf_15 : decode k_X8_lettersOf.2.1 15 = .ok (.iaload, 1) := by decide +kernel
theorem dX8_lettersOf_16 : decode k_X8_lettersOf.2.1 16 = .ok (.goto 4, 3) := by decide +kernel
theorem dX8_lettersOf_19 : decode k_X8_lettersOf.2.1 19 = .ok (.iconst 0, 1) := by decide +kernel
theorem dX8_lettersOf_20 : decode k_X8_lettersOf.2.1 20 = .ok (.ireturn, 1) := by decide +kernel
theorem dX8_depthOf_0 : decode k_X8_depthOf.2.1 0 = .ok (.iload_n 1, 1) := by decide +kernel
theorem dX8_depthOf_1 : decode k_X8_depthOf.2.1 1 = .ok (.ifCond .lt 18, 3) := by decide +kernel
theorem dX8_depthOf_4 : decode k_X8_depthOf.2.1 4 = .ok (.iload_n 1, 1) := by decide +kernel
theorem dX8_depthOf_5 : decode k_X8_depthOf.2.1 5 = .ok (.bipush 86, 2) := by decide +kernel
theorem dX8_depthOf_7 : decode k_X8_depthOf.2.1 7 = .ok (.if_icmp .ge 12, 3) := by decide +kernel
theorem dX8_depthOf_10 : decode k_X8_depthOf.2.1 10 = .ok (.aload_n 0, 1) := by decide +kernel
theorem dX8_depthOf_11 : decode k_X8_depthOf.2.1 11 = .ok (.getfield 15, 3) := by decide +kernel
theorem dX8_depthOf_14 : decode k_X8_depthOf.2.1 14 = .ok (.iload_n 1, 1) := by decide +kernel
theorem dX8_depthOf_15 : decode k_X8_depthOf.2.1 15 = .ok (.iaload, 1) := by decide +kernel
theorem dX8_depthOf_16 : decode k_X8_depthOf.2.1 16 = .ok (.goto 4, 3) := by decide +kernel
theorem dX8_depthOf_19 : decode k_X8_depthOf.2.1 19 = .ok (.iconst 0, 1) := by decide +kernel
theorem dX8_depthOf_20 : decode k_X8_depthOf.2.1 20 = .ok (.ireturn, 1) := by decide +kernel
theorem dX8_goDown_0 : decode k_X8_goDown.2.1 0 = .ok (.aload_n 0, 1) := by decide +kernel
theorem dX8_goDown_1 : decode k_X8_goDown.2.1 1 = .ok (.iload_n 2, 1) := by decide +kernel
theorem dX8_goDown_2 : decode k_X8_goDown.2.1 2 = .ok (.putfield 27, 3) := by decide +kernel
theorem dX8_goDown_5 : decode k_X8_goDown.2.1 5 = .ok (.aload_n 0, 1) := by decide +kernel
theorem dX8_goDown_6 : decode k_X8_goDown.2.1 6 = .ok (.iconst 0, 1) := by decide +kernel
theorem dX8_goDown_7 : decode k_X8_goDown.2.1 7 = .ok (.putfield 31, 3) := by decide +kernel
theorem dX8_goDown_10 : decode k_X8_goDown.2.1 10 = .ok (.iload_n 3, 1) := by decide +kernel
theorem dX8_goDown_11 : decode k_X8_goDown.2.1 11 = .ok (.istore 5, 2) := by decide +kernel
theorem dX8_goDown_13 : decode k_X8_goDown.2.1 13 = .ok (.aload_n 0, 1) := by decide +kernel
theorem dX8_goDown_14 : decode k_X8_goDown.2.1 14 = .ok (.getfield 31, 3) := by decide +kernel
theorem dX8_goDown_17 : decode k_X8_goDown.2.1 17 = .ok (.iload 4, 2) := by decide +kernel
theorem dX8_goDown_19 : decode k_X8_goDown.2.1 19 = .ok (.if_icmp .ge 101, 3) := by decide +kernel
theorem dX8_goDown_22 : decode k_X8_goDown.2.1 22 = .ok (.aload_n 1, 1) := by decide +kernel
theorem dX8_goDown_23 : decode k_X8_goDown.2.1 23 = .ok (.aload_n 0, 1) := by decide +kernel
theorem dX8_goDown_24 : decode k_X8_goDown.2.1 24 = .ok (.getfield 27, 3) := by decide +kernel
theorem dX8_goDown_27 : decode k_X8_goDown.2.1 27 = .ok (.invokevirtual 63, 3) := by decide +kernel
theorem dX8_goDown_30 : decode k_X8_goDown.2.1 30 = .ok (.ifCond .eq 90, 3) := by decide +kernel
theorem dX8_goDown_33 : decode k_X8_goDown.2.1 33 = .ok (.aload_n 1, 1) := by decide +kernel
theorem dX8_goDown_34 : decode k_X8_goDown.2.1 34 = .ok (.aload_n 0, 1) := by decide +kernel
theorem dX8_goDown_35 : decode k_X8_goDown.2.1 35 = .ok (.getfield 27, 3) := by decide +kernel
theorem dX8_goDown_38 : decode k_X8_goDown.2.1 38 = .ok (.invokevirtual 45, 3) := by decide +kernel
theorem dX8_goDown_41 : decode k_X8_goDown.2.1 41 = .ok (.astore 6, 2) := by decide +kernel
theorem dX8_goDown_43 : decode k_X8_goDown.2.1 43 = .ok (.iconst 0, 1) := by decide +kernel
theorem dX8_goDown_44 : decode k_X8_goDown.2.1 44 = .ok (.istore 7, 2) := by decide +kernel
theorem dX8_goDown_46 : decode k_X8_goDown.2.1 46 = .ok (.iload 7, 2) := by decide +kernel
theorem dX8_goDown_48 : decode k_X8_goDown.2.1 48 = .ok (.aload 6, 2) := by decide +kernel
theorem dX8_goDown_50 : decode k_X8_goDown.2.1 50 = .ok (.invokevirtual 55, 3) := by decide +kernel
theorem dX8_goDown_53 : decode k_X8_goDown.2.1 53 = .ok (.iconst 1, 1) := by decide +kernel
theorem dX8_goDown_54 : decode k_X8_goDown.2.1 54 = .ok (.isub, 1) := by decide +kernel
theorem dX8_goDown_55 : decode k_X8_goDown.2.1 55 = .ok (.if_icmp .ge 41, 3) := by decide +kernel
theorem dX8_goDown_58 : decode k_X8_goDown.2.1 58 = .ok (.iload 5, 2) := by decide +kernel
theorem dX8_goDown_60 : decode k_X8_goDown.2.1 60 = .ok (.aload_n 0, 1) := by decide +kernel
theorem dX8_goDown_61 : decode k_X8_goDown.2.1 61 = .ok (.aload 6, 2) := by decide +kernel
theorem dX8_goDown_63 : decode k_X8_goDown.2.1 63 = .ok (.iload 7, 2) := by decide +kernel
theorem dX8_goDown_65 : decode k_X8_goDown.2.1 65 = .ok (.invokevirtual 59, 3) := by decide +kernel
theorem dX8_goDown_68 : decode k_X8_goDown.2.1 68 = .ok (.invokevirtual 66, 3) := by decide +kernel
theorem dX8_goDown_71 : decode k_X8_goDown.2.1 71 = .ok (.if_icmp .lt 25, 3) := by decide +kernel
theorem dX8_goDown_74 : decode k_X8_goDown.2.1 74 = .ok (.iload 5, 2) := by decide +kernel
theorem dX8_goDown_76 : decode k_X8_goDown.2.1 76 = .ok (.aload_n 0, 1) := by decide +kernel
theorem dX8_goDown_77 : decode k_X8_goDown.2.1 77 = .ok (.aload 6, 2) := by decide +kernel
theorem dX8_goDown_79 : decode k_X8_goDown.2.1 79 = .ok (.iload 7, 2) := by decide +kernel
theorem dX8_goDown_81 : decode k_X8_goDown.2.1 81 = .ok (.invokevirtual 59, 3) := by decide +kernel
theorem dX8_goDown_84 : decode k_X8_goDown.2.1 84 = .ok (.invokevirtual 66, 3) := by decide +kernel
theorem dX8_goDown_87 : decode k_X8_goDown.2.1 87 = .ok (.isub, 1) := by decide +kernel
theorem dX8_goDown_88 : decode k_X8_goDown.2.1 88 = .ok (.istore 5, 2) := by decide +kernel
theorem dX8_goDown_90 : decode k_X8_goDown.2.1 90 = .ok (.iinc 7 1, 3) := by decide +kernel
theorem dX8_goDown_93 : decode k_X8_goDown.2.1 93 = .ok (.goto (-47), 3) := by decide +kernel
theorem dX8_goDown_96 : decode k_X8_goDown.2.1 96 = .ok (.aload_n 0, 1) := by decide +kernel
theorem dX8_goDown_97 : decode k_X8_goDown.2.1 97 = .ok (.aload 6, 2) := by decide +kernel
theorem dX8_goDown_99 : decode k_X8_goDown.2.1 99 = .ok (.iload 7, 2) := by decide +kernel
theorem dX8_goDown_101 : decode k_X8_goDown.2.1 101 = .ok (.invokevirtual 59, 3) := by decide +kernel
theorem dX8_goDown_104 : decode k_X8_goDown.2.1 104 = .ok (.putfield 27, 3) := by decide +kernel
theorem dX8_goDown_107 : decode k_X8_goDown.2.1 107 = .ok (.aload_n 0, 1) := by decide +kernel
theorem dX8_goDown_108 : decode k_X8_goDown.2.1 108 = .ok (.dup, 1) := by decide +kernel
theorem dX8_goDown_109 : decode k_X8_goDown.2.1 109 = .ok (.getfield 31, 3) := by decide +kernel
theorem dX8_goDown_112 : decode k_X8_goDown.2.1 112 = .ok (.iconst 1, 1) := by decide +kernel
theorem dX8_goDown_113 : decode k_X8_goDown.2.1 113 = .ok (.iadd, 1) := by decide +kernel
theorem dX8_goDown_114 : decode k_X8_goDown.2.1 114 = .ok (.putfield 31, 3) := by decide +kernel
theorem dX8_goDown_117 : decode k_X8_goDown.2.1 117 = .ok (.goto (-104), 3) := by decide +kernel
theorem dX8_goDown_120 : decode k_X8_goDown.2.1 120 = .ok (.return_, 1) := by decide +kernel
theorem dX8_reached_0 : decode k_X8_reached.2.1 0 = .ok (.aload_n 0, 1) := by decide +kernel
theorem dX8_reached_1 : decode k_X8_reached.2.1 1 = .ok (.getfield 27, 3) := by decide +kernel
theorem dX8_reached_4 : decode k_X8_reached.2.1 4 = .ok (.ireturn, 1) := by decide +kernel
theorem dX8_levelsGone_0 : decode k_X8_levelsGone.2.1 0 = .ok (.aload_n 0, 1) := by decide +kernel
theorem dX8_levelsGone_1 : decode k_X8_levelsGone.2.1 1 = .ok (.getfield 31, 3) := by decide +kernel
theorem dX8_levelsGone_4 : decode k_X8_levelsGone.2.1 4 = .ok (.ireturn, 1) := by decide +kernel
theorem dX8_leastReady_0 : decode k_X8_leastReady.2.1 0 = .ok (.bipush 26, 2) := by decide +kernel
theorem dX8_leastReady_2 : decode k_X8_leastReady.2.1 2 = .ok (.istore_n 2, 1) := by decide +kernel
theorem dX8_leastReady_3 : decode k_X8_leastReady.2.1 3 = .ok (.iload_n 2, 1) := by decide +kernel
theorem dX8_leastReady_4 : decode k_X8_leastReady.2.1 4 = .ok (.bipush 86, 2) := by decide +kernel
theorem dX8_leastReady_6 : decode k_X8_leastReady.2.1 6 = .ok (.if_icmp .ge 40, 3) := by decide +kernel
theorem dX8_leastReady_9 : decode k_X8_leastReady.2.1 9 = .ok (.aload_n 0, 1) := by decide +kernel
theorem dX8_leastReady_10 : decode k_X8_leastReady.2.1 10 = .ok (.getfield 9, 3) := by decide +kernel
theorem dX8_leastReady_13 : decode k_X8_leastReady.2.1 13 = .ok (.iload_n 2, 1) := by decide +kernel
theorem dX8_leastReady_14 : decode k_X8_leastReady.2.1 14 = .ok (.iaload, 1) := by decide +kernel
theorem dX8_leastReady_15 : decode k_X8_leastReady.2.1 15 = .ok (.ifCond .ne 25, 3) := by decide +kernel
theorem dX8_leastReady_18 : decode k_X8_leastReady.2.1 18 = .ok (.aload_n 1, 1) := by decide +kernel
theorem dX8_leastReady_19 : decode k_X8_leastReady.2.1 19 = .ok (.iload_n 2, 1) := by decide +kernel
theorem dX8_leastReady_20 : decode k_X8_leastReady.2.1 20 = .ok (.invokevirtual 63, 3) := by decide +kernel
theorem dX8_leastReady_23 : decode k_X8_leastReady.2.1 23 = .ok (.ifCond .eq 17, 3) := by decide +kernel
theorem dX8_leastReady_26 : decode k_X8_leastReady.2.1 26 = .ok (.aload_n 0, 1) := by decide +kernel
theorem dX8_leastReady_27 : decode k_X8_leastReady.2.1 27 = .ok (.aload_n 1, 1) := by decide +kernel
theorem dX8_leastReady_28 : decode k_X8_leastReady.2.1 28 = .ok (.iload_n 2, 1) := by decide +kernel
theorem dX8_leastReady_29 : decode k_X8_leastReady.2.1 29 = .ok (.invokevirtual 45, 3) := by decide +kernel
theorem dX8_leastReady_32 : decode k_X8_leastReady.2.1 32 = .ok (.invokevirtual 69, 3) := by decide +kernel
theorem dX8_leastReady_35 : decode k_X8_leastReady.2.1 35 = .ok (.ifCond .eq 5, 3) := by decide +kernel
theorem dX8_leastReady_38 : decode k_X8_leastReady.2.1 38 = .ok (.iload_n 2, 1) := by decide +kernel
theorem dX8_leastReady_39 : decode k_X8_leastReady.2.1 39 = .ok (.ireturn, 1) := by decide +kernel
theorem dX8_leastReady_40 : decode k_X8_leastReady.2.1 40 = .ok (.iinc 2 1, 3) := by decide +kernel
theorem dX8_leastReady_43 : decode k_X8_leastReady.2.1 43 = .ok (.goto (-40), 3) := by decide +kernel
theorem dX8_leastReady_46 : decode k_X8_leastReady.2.1 46 = .ok (.iconst (-1), 1) := by decide +kernel
theorem dX8_leastReady_47 : decode k_X8_leastReady.2.1 47 = .ok (.ireturn, 1) := by decide +kernel
theorem dX8_isReady_0 : decode k_X8_isReady.2.1 0 = .ok (.iconst 0, 1) := by decide +kernel
theorem dX8_isReady_1 : decode k_X8_isReady.2.1 1 = .ok (.istore_n 2, 1) := by decide +kernel
theorem dX8_isReady_2 : decode k_X8_isReady.2.1 2 = .ok (.iload_n 2, 1) := by decide +kernel
theorem dX8_isReady_3 : decode k_X8_isReady.2.1 3 = .ok (.aload_n 1, 1) := by decide +kernel
theorem dX8_isReady_4 : decode k_X8_isReady.2.1 4 = .ok (.invokevirtual 55, 3) := by decide +kernel
theorem dX8_isReady_7 : decode k_X8_isReady.2.1 7 = .ok (.if_icmp .ge 23, 3) := by decide +kernel
theorem dX8_isReady_10 : decode k_X8_isReady.2.1 10 = .ok (.aload_n 0, 1) := by decide +kernel
theorem dX8_isReady_11 : decode k_X8_isReady.2.1 11 = .ok (.aload_n 1, 1) := by decide +kernel
theorem dX8_isReady_12 : decode k_X8_isReady.2.1 12 = .ok (.iload_n 2, 1) := by decide +kernel
theorem dX8_isReady_13 : decode k_X8_isReady.2.1 13 = .ok (.invokevirtual 59, 3) := by decide +kernel
theorem dX8_isReady_16 : decode k_X8_isReady.2.1 16 = .ok (.invokevirtual 66, 3) := by decide +kernel
theorem dX8_isReady_19 : decode k_X8_isReady.2.1 19 = .ok (.ifCond .ne 5, 3) := by decide +kernel
theorem dX8_isReady_22 : decode k_X8_isReady.2.1 22 = .ok (.iconst 0, 1) := by decide +kernel
theorem dX8_isReady_23 : decode k_X8_isReady.2.1 23 = .ok (.ireturn, 1) := by decide +kernel
theorem dX8_isReady_24 : decode k_X8_isReady.2.1 24 = .ok (.iinc 2 1, 3) := by decide +kernel
theorem dX8_isReady_27 : decode k_X8_isReady.2.1 27 = .ok (.goto (-25), 3) := by decide +kernel
theorem dX8_isReady_30 : decode k_X8_isReady.2.1 30 = .ok (.iconst 1, 1) := by decide +kernel
theorem dX8_isReady_31 : decode k_X8_isReady.2.1 31 = .ok (.ireturn, 1) := by decide +kernel
theorem dX8_tell_0 : decode k_X8_tell.2.1 0 = .ok (.iload_n 1, 1) := by decide +kernel
theorem dX8_tell_1 : decode k_X8_tell.2.1 1 = .ok (.ifCond .lt 9, 3) := by decide +kernel
theorem dX8_tell_4 : decode k_X8_tell.2.1 4 = .ok (.iload_n 1, 1) := by decide +kernel
theorem dX8_tell_5 : decode k_X8_tell.2.1 5 = .ok (.bipush 86, 2) := by decide +kernel
theorem dX8_tell_7 : decode k_X8_tell.2.1 7 = .ok (.if_icmp .lt 4, 3) := by decide +kernel
theorem dX8_tell_10 : decode k_X8_tell.2.1 10 = .ok (.return_, 1) := by decide +kernel
theorem dX8_tell_11 : decode k_X8_tell.2.1 11 = .ok (.iconst 0, 1) := by decide +kernel
theorem dX8_tell_12 : decode k_X8_tell.2.1 12 = .ok (.istore_n 3, 1) := by decide +kernel
theorem dX8_tell_13 : decode k_X8_tell.2.1 13 = .ok (.iconst 0, 1) := by decide +kernel
theorem dX8_tell_14 : decode k_X8_tell.2.1 14 = .ok (.istore 4, 2) := by decide +kernel
theorem dX8_tell_16 : decode k_X8_tell.2.1 16 = .ok (.iconst 0, 1) := by decide +kernel
theorem dX8_tell_17 : decode k_X8_tell.2.1 17 = .ok (.istore 5, 2) := by decide +kernel
theorem dX8_tell_19 : decode k_X8_tell.2.1 19 = .ok (.iload 5, 2) := by decide +kernel
theorem dX8_tell_21 : decode k_X8_tell.2.1 21 = .ok (.aload_n 2, 1) := by decide +kernel
theorem dX8_tell_22 : decode k_X8_tell.2.1 22 = .ok (.invokevirtual 55, 3) := by decide +kernel
theorem dX8_tell_25 : decode k_X8_tell.2.1 25 = .ok (.if_icmp .ge 39, 3) := by decide +kernel
theorem dX8_tell_28 : decode k_X8_tell.2.1 28 = .ok (.iload_n 3, 1) := by decide +kernel
theorem dX8_tell_29 : decode k_X8_tell.2.1 29 = .ok (.aload_n 0, 1) := by decide +kernel
theorem dX8_tell_30 : decode k_X8_tell.2.1 30 = .ok (.aload_n 2, 1) := by decide +kernel
theorem dX8_tell_31 : decode k_X8_tell.2.1 31 = .ok (.iload 5, 2) := by decide +kernel
theorem dX8_tell_33 : decode k_X8_tell.2.1 33 = .ok (.invokevirtual 59, 3) := by decide +kernel
theorem dX8_tell_36 : decode k_X8_tell.2.1 36 = .ok (.invokevirtual 66, 3) := by decide +kernel
theorem dX8_tell_39 : decode k_X8_tell.2.1 39 = .ok (.iadd, 1) := by decide +kernel
theorem dX8_tell_40 : decode k_X8_tell.2.1 40 = .ok (.istore_n 3, 1) := by decide +kernel
theorem dX8_tell_41 : decode k_X8_tell.2.1 41 = .ok (.iload 4, 2) := by decide +kernel
theorem dX8_tell_43 : decode k_X8_tell.2.1 43 = .ok (.aload_n 0, 1) := by decide +kernel
theorem dX8_tell_44 : decode k_X8_tell.2.1 44 = .ok (.aload_n 2, 1) := by decide +kernel
theorem dX8_tell_45 : decode k_X8_tell.2.1 45 = .ok (.iload 5, 2) := by decide +kernel
theorem dX8_tell_47 : decode k_X8_tell.2.1 47 = .ok (.invokevirtual 59, 3) := by decide +kernel
theorem dX8_tell_50 : decode k_X8_tell.2.1 50 = .ok (.invokevirtual 73, 3) := by decide +kernel
theorem dX8_tell_53 : decode k_X8_tell.2.1 53 = .ok (.invokestatic 76, 3) := by decide +kernel
theorem dX8_tell_56 : decode k_X8_tell.2.1 56 = .ok (.istore 4, 2) := by decide +kernel
theorem dX8_tell_58 : decode k_X8_tell.2.1 58 = .ok (.iinc 5 1, 3) := by decide +kernel
theorem dX8_tell_61 : decode k_X8_tell.2.1 61 = .ok (.goto (-42), 3) := by decide +kernel
theorem dX8_tell_64 : decode k_X8_tell.2.1 64 = .ok (.aload_n 0, 1) := by decide +kernel
theorem dX8_tell_65 : decode k_X8_tell.2.1 65 = .ok (.getfield 9, 3) := by decide +kernel
theorem dX8_tell_68 : decode k_X8_tell.2.1 68 = .ok (.iload_n 1, 1) := by decide +kernel
theorem dX8_tell_69 : decode k_X8_tell.2.1 69 = .ok (.iload_n 3, 1) := by decide +kernel
theorem dX8_tell_70 : decode k_X8_tell.2.1 70 = .ok (.iastore, 1) := by decide +kernel
theorem dX8_tell_71 : decode k_X8_tell.2.1 71 = .ok (.aload_n 0, 1) := by decide +kernel
theorem dX8_tell_72 : decode k_X8_tell.2.1 72 = .ok (.getfield 15, 3) := by decide +kernel
theorem dX8_tell_75 : decode k_X8_tell.2.1 75 = .ok (.iload_n 1, 1) := by decide +kernel
theorem dX8_tell_76 : decode k_X8_tell.2.1 76 = .ok (.iload 4, 2) := by decide +kernel
theorem dX8_tell_78 : decode k_X8_tell.2.1 78 = .ok (.iconst 1, 1) := by decide +kernel
theorem dX8_tell_79 : decode k_X8_tell.2.1 79 = .ok (.iadd, 1) := by decide +kernel
theorem dX8_tell_80 : decode k_X8_tell.2.1 80 = .ok (.iastore, 1) := by decide +kernel
theorem dX8_tell_81 : decode k_X8_tell.2.1 81 = .ok (.aload_n 0, 1) := by decide +kernel
theorem dX8_tell_82 : decode k_X8_tell.2.1 82 = .ok (.getfield 23, 3) := by decide +kernel
theorem dX8_tell_85 : decode k_X8_tell.2.1 85 = .ok (.iload_n 1, 1) := by decide +kernel
theorem dX8_tell_86 : decode k_X8_tell.2.1 86 = .ok (.invokevirtual 82, 3) := by decide +kernel
theorem dX8_tell_89 : decode k_X8_tell.2.1 89 = .ok (.return_, 1) := by decide +kernel
theorem dX9_init_0 : decode k_X9_init.2.1 0 = .ok (.aload_n 0, 1) := by decide +kernel
theorem dX9_init_1 : decode k_X9_init.2.1 1 = .ok (.invokespecial 3, 3) := by decide +kernel
theorem dX9_init_4 : decode k_X9_init.2.1 4 = .ok (.aload_n 0, 1) := by decide +kernel
theorem dX9_init_5 : decode k_X9_init.2.1 5 = .ok (.new 9, 3) := by decide +kernel
theorem dX9_init_8 : decode k_X9_init.2.1 8 = .ok (.dup, 1) := by decide +kernel
theorem dX9_init_9 : decode k_X9_init.2.1 9 = .ok (.invokespecial 11, 3) := by decide +kernel
theorem dX9_init_12 : decode k_X9_init.2.1 12 = .ok (.putfield 12, 3) := by decide +kernel
theorem dX9_init_15 : decode k_X9_init.2.1 15 = .ok (.aload_n 0, 1) := by decide +kernel
theorem dX9_init_16 : decode k_X9_init.2.1 16 = .ok (.new 16, 3) := by decide +kernel
theorem dX9_init_19 : decode k_X9_init.2.1 19 = .ok (.dup, 1) := by decide +kernel
theorem dX9_init_20 : decode k_X9_init.2.1 20 = .ok (.invokespecial 18, 3) := by decide +kernel
theorem dX9_init_23 : decode k_X9_init.2.1 23 = .ok (.putfield 19, 3) := by decide +kernel
theorem dX9_init_26 : decode k_X9_init.2.1 26 = .ok (.aload_n 0, 1) := by decide +kernel
theorem dX9_init_27 : decode k_X9_init.2.1 27 = .ok (.iconst 2, 1) := by decide +kernel
theorem dX9_init_28 : decode k_X9_init.2.1 28 = .ok (.anewarray 9, 3) := by decide +kernel
theorem dX9_init_31 : decode k_X9_init.2.1 31 = .ok (.putfield 23, 3) := by decide +kernel
theorem dX9_init_34 : decode k_X9_init.2.1 34 = .ok (.aload_n 0, 1) := by decide +kernel
theorem dX9_init_35 : decode k_X9_init.2.1 35 = .ok (.iconst 2, 1) := by decide +kernel
theorem dX9_init_36 : decode k_X9_init.2.1 36 = .ok (.newarray .boolean, 2) := by decide +kernel
theorem dX9_init_38 : decode k_X9_init.2.1 38 = .ok (.putfield 27, 3) := by decide +kernel
theorem dX9_init_41 : decode k_X9_init.2.1 41 = .ok (.aload_n 0, 1) := by decide +kernel
theorem dX9_init_42 : decode k_X9_init.2.1 42 = .ok (.new 31, 3) := by decide +kernel
theorem dX9_init_45 : decode k_X9_init.2.1 45 = .ok (.dup, 1) := by decide +kernel
theorem dX9_init_46 : decode k_X9_init.2.1 46 = .ok (.sipush 260, 3) := by decide +kernel
theorem dX9_init_49 : decode k_X9_init.2.1 49 = .ok (.invokespecial 33, 3) := by decide +kernel
theorem dX9_init_52 : decode k_X9_init.2.1 52 = .ok (.putfield 36, 3) := by decide +kernel
theorem dX9_init_55 : decode k_X9_init.2.1 55 = .ok (.aload_n 0, 1) := by decide +kernel
theorem dX9_init_56 : decode k_X9_init.2.1 56 = .ok (.new 31, 3) := by decide +kernel
theorem dX9_init_59 : decode k_X9_init.2.1 59 = .ok (.dup, 1) := by decide +kernel
theorem dX9_init_60 : decode k_X9_init.2.1 60 = .ok (.bipush 20, 2) := by decide +kernel
theorem dX9_init_62 : decode k_X9_init.2.1 62 = .ok (.invokespecial 33, 3) := by decide +kernel
theorem dX9_init_65 : decode k_X9_init.2.1 65 = .ok (.putfield 40, 3) := by decide +kernel
theorem dX9_init_68 : decode k_X9_init.2.1 68 = .ok (.aload_n 0, 1) := by decide +kernel
theorem dX9_init_69 : decode k_X9_init.2.1 69 = .ok (.new 43, 3) := by decide +kernel
theorem dX9_init_72 : decode k_X9_init.2.1 72 = .ok (.dup, 1) := by decide +kernel
theorem dX9_init_73 : decode k_X9_init.2.1 73 = .ok (.invokespecial 45, 3) := by decide +kernel
theorem dX9_init_76 : decode k_X9_init.2.1 76 = .ok (.putfield 46, 3) := by decide +kernel
theorem dX9_init_79 : decode k_X9_init.2.1 79 = .ok (.aload_n 0, 1) := by decide +kernel
theorem dX9_init_80 : decode k_X9_init.2.1 80 = .ok (.iconst 0, 1) := by decide +kernel
theorem dX9_init_81 : decode k_X9_init.2.1 81 = .ok (.putfield 50, 3) := by decide +kernel
theorem dX9_init_84 : decode k_X9_init.2.1 84 = .ok (.aload_n 0, 1) := by decide +kernel
theorem dX9_init_85 : decode k_X9_init.2.1 85 = .ok (.iconst (-1), 1) := by decide +kernel
theorem dX9_init_86 : decode k_X9_init.2.1 86 = .ok (.putfield 54, 3) := by decide +kernel
theorem dX9_init_89 : decode k_X9_init.2.1 89 = .ok (.aload_n 0, 1) := by decide +kernel
theorem dX9_init_90 : decode k_X9_init.2.1 90 = .ok (.new 57, 3) := by decide +kernel
theorem dX9_init_93 : decode k_X9_init.2.1 93 = .ok (.dup, 1) := by decide +kernel
theorem dX9_init_94 : decode k_X9_init.2.1 94 = .ok (.invokespecial 59, 3) := by decide +kernel
theorem dX9_init_97 : decode k_X9_init.2.1 97 = .ok (.putfield 60, 3) := by decide +kernel
theorem dX9_init_100 : decode k_X9_init.2.1 100 = .ok (.aload_n 0, 1) := by decide +kernel
theorem dX9_init_101 : decode k_X9_init.2.1 101 = .ok (.new 64, 3) := by decide +kernel
theorem dX9_init_104 : decode k_X9_init.2.1 104 = .ok (.dup, 1) := by decide +kernel
theorem dX9_init_105 : decode k_X9_init.2.1 105 = .ok (.invokespecial 66, 3) := by decide +kernel
theorem dX9_init_108 : decode k_X9_init.2.1 108 = .ok (.putfield 67, 3) := by decide +kernel
theorem dX9_init_111 : decode k_X9_init.2.1 111 = .ok (.aload_n 0, 1) := by decide +kernel
theorem dX9_init_112 : decode k_X9_init.2.1 112 = .ok (.iconst 0, 1) := by decide +kernel
theorem dX9_init_113 : decode k_X9_init.2.1 113 = .ok (.putfield 71, 3) := by decide +kernel
theorem dX9_init_116 : decode k_X9_init.2.1 116 = .ok (.aload_n 0, 1) := by decide +kernel
theorem dX9_init_117 : decode k_X9_init.2.1 117 = .ok (.new 31, 3) := by decide +kernel
theorem dX9_init_120 : decode k_X9_init.2.1 120 = .ok (.dup, 1) := by decide +kernel
theorem dX9_init_121 : decode k_X9_init.2.1 121 = .ok (.iconst 1, 1) := by decide +kernel
theorem dX9_init_122 : decode k_X9_init.2.1 122 = .ok (.invokespecial 33, 3) := by decide +kernel
theorem dX9_init_125 : decode k_X9_init.2.1 125 = .ok (.putfield 75, 3) := by decide +kernel
theorem dX9_init_128 : decode k_X9_init.2.1 128 = .ok (.aload_n 0, 1) := by decide +kernel
theorem dX9_init_129 : decode k_X9_init.2.1 129 = .ok (.new 64, 3) := by decide +kernel
theorem dX9_init_132 : decode k_X9_init.2.1 132 = .ok (.dup, 1) := by decide +kernel
theorem dX9_init_133 : decode k_X9_init.2.1 133 = .ok (.invokespecial 66, 3) := by decide +kernel
theorem dX9_init_136 : decode k_X9_init.2.1 136 = .ok (.putfield 78, 3) := by decide +kernel
theorem dX9_init_139 : decode k_X9_init.2.1 139 = .ok (.aload_n 0, 1) := by decide +kernel
theorem dX9_init_140 : decode k_X9_init.2.1 140 = .ok (.new 81, 3) := by decide +kernel
theorem dX9_init_143 : decode k_X9_init.2.1 143 = .ok (.dup, 1) := by decide +kernel
theorem dX9_init_144 : decode k_X9_init.2.1 144 = .ok (.invokespecial 83, 3) := by decide +kernel
theorem dX9_init_147 : decode k_X9_init.2.1 147 = .ok (.putfield 84, 3) := by decide +kernel
theorem dX9_init_150 : decode k_X9_init.2.1 150 = .ok (.aload_n 0, 1) := by decide +kernel
theorem dX9_init_151 : decode k_X9_init.2.1 151 = .ok (.new 88, 3) := by decide +kernel
theorem dX9_init_154 : decode k_X9_init.2.1 154 = .ok (.dup, 1) := by decide +kernel
theorem dX9_init_155 : decode k_X9_init.2.1 155 = .ok (.invokespecial 90, 3) := by decide +kernel
theorem dX9_init_158 : decode k_X9_init.2.1 158 = .ok (.putfield 91, 3) := by decide +kernel
theorem dX9_init_161 : decode k_X9_init.2.1 161 = .ok (.aload_n 0, 1) := by decide +kernel
theorem dX9_init_162 : decode k_X9_init.2.1 162 = .ok (.new 95, 3) := by decide +kernel
theorem dX9_init_165 : decode k_X9_init.2.1 165 = .ok (.dup, 1) := by decide +kernel
theorem dX9_init_166 : decode k_X9_init.2.1 166 = .ok (.invokespecial 97, 3) := by decide +kernel
theorem dX9_init_169 : decode k_X9_init.2.1 169 = .ok (.putfield 98, 3) := by decide +kernel
theorem dX9_init_172 : decode k_X9_init.2.1 172 = .ok (.aload_n 0, 1) := by decide +kernel
theorem dX9_init_173 : decode k_X9_init.2.1 173 = .ok (.new 31, 3) := by decide +kernel
theorem dX9_init_176 : decode k_X9_init.2.1 176 = .ok (.dup, 1) := by decide +kernel
theorem dX9_init_177 : decode k_X9_init.2.1 177 = .ok (.sipush 1082, 3) := by decide +kernel
theorem dX9_init_180 : decode k_X9_init.2.1 180 = .ok (.invokespecial 33, 3) := by decide +kernel
theorem dX9_init_183 : decode k_X9_init.2.1 183 = .ok (.putfield 102, 3) := by decide +kernel
theorem dX9_init_186 : decode k_X9_init.2.1 186 = .ok (.iconst 0, 1) := by decide +kernel
theorem dX9_init_187 : decode k_X9_init.2.1 187 = .ok (.istore_n 1, 1) := by decide +kernel
theorem dX9_init_188 : decode k_X9_init.2.1 188 = .ok (.iload_n 1, 1) := by decide +kernel
theorem dX9_init_189 : decode k_X9_init.2.1 189 = .ok (.iconst 2, 1) := by decide +kernel
theorem dX9_init_190 : decode k_X9_init.2.1 190 = .ok (.if_icmp .ge 22, 3) := by decide +kernel
theorem dX9_init_193 : decode k_X9_init.2.1 193 = .ok (.aload_n 0, 1) := by decide +kernel
theorem dX9_init_194 : decode k_X9_init.2.1 194 = .ok (.getfield 23, 3) := by decide +kernel
theorem dX9_init_197 : decode k_X9_init.2.1 197 = .ok (.iload_n 1, 1) := by decide +kernel
theorem dX9_init_198 : decode k_X9_init.2.1 198 = .ok (.new 9, 3) := by decide +kernel
theorem dX9_init_201 : decode k_X9_init.2.1 201 = .ok (.dup, 1) := by decide +kernel
theorem dX9_init_202 : decode k_X9_init.2.1 202 = .ok (.invokespecial 11, 3) := by decide +kernel
theorem dX9_init_205 : decode k_X9_init.2.1 205 = .ok (.aastore, 1) := by decide +kernel
theorem dX9_init_206 : decode k_X9_init.2.1 206 = .ok (.iinc 1 1, 3) := by decide +kernel
theorem dX9_init_209 : decode k_X9_init.2.1 209 = .ok (.goto (-21), 3) := by decide +kernel
theorem dX9_init_212 : decode k_X9_init.2.1 212 = .ok (.return_, 1) := by decide +kernel
theorem dX9_feed_0 : decode k_X9_feed.2.1 0 = .ok (.aload_n 0, 1) := by decide +kernel
theorem dX9_feed_1 : decode k_X9_feed.2.1 1 = .ok (.getfield 36, 3) := by decide +kernel
theorem dX9_feed_4 : decode k_X9_feed.2.1 4 = .ok (.invokevirtual 105, 3) := by decide +kernel
theorem dX9_feed_7 : decode k_X9_feed.2.1 7 = .ok (.bipush 20, 2) := by decide +kernel
theorem dX9_feed_9 : decode k_X9_feed.2.1 9 = .ok (.iadd, 1) := by decide +kernel
theorem dX9_feed_10 : decode k_X9_feed.2.1 10 = .ok (.sipush 260, 3) := by decide +kernel
theorem dX9_feed_13 : decode k_X9_feed.2.1 13 = .ok (.if_icmp .le 6, 3) := by decide +kernel
theorem dX9_feed_16 : decode k_X9_feed.2.1 16 = .ok (.bipush (-4), 2) := by decide +kernel
theorem dX9_feed_18 : decode k_X9_feed.2.1 18 = .ok (.ireturn, 1) := by decide +kernel
theorem dX9_feed_19 : decode k_X9_feed.2.1 19 = .ok (.aload_n 0, 1) := by decide +kernel
theorem dX9_feed_20 : decode k_X9_feed.2.1 20 = .ok (.iload_n 1, 1) := by decide +kernel
theorem dX9_feed_21 : decode k_X9_feed.2.1 21 = .ok (.invokevirtual 109, 3) := by decide +kernel
theorem dX9_feed_24 : decode k_X9_feed.2.1 24 = .ok (.aload_n 0, 1) := by decide +kernel
theorem dX9_feed_25 : decode k_X9_feed.2.1 25 = .ok (.iload_n 2, 1) := by decide +kernel
theorem dX9_feed_26 : decode k_X9_feed.2.1 26 = .ok (.invokevirtual 109, 3) := by decide +kernel
theorem dX9_feed_29 : decode k_X9_feed.2.1 29 = .ok (.aload_n 0, 1) := by decide +kernel
theorem dX9_feed_30 : decode k_X9_feed.2.1 30 = .ok (.iload_n 3, 1) := by decide +kernel
theorem dX9_feed_31 : decode k_X9_feed.2.1 31 = .ok (.invokevirtual 109, 3) := by decide +kernel
theorem dX9_feed_34 : decode k_X9_feed.2.1 34 = .ok (.aload_n 0, 1) := by decide +kernel
theorem dX9_feed_35 : decode k_X9_feed.2.1 35 = .ok (.iload 4, 2) := by decide +kernel
theorem dX9_feed_37 : decode k_X9_feed.2.1 37 = .ok (.invokevirtual 109, 3) := by decide +kernel
theorem dX9_feed_40 : decode k_X9_feed.2.1 40 = .ok (.aload_n 0, 1) := by decide +kernel
theorem dX9_feed_41 : decode k_X9_feed.2.1 41 = .ok (.iload 5, 2) := by decide +kernel
theorem dX9_feed_43 : decode k_X9_feed.2.1 43 = .ok (.invokevirtual 109, 3) := by decide +kernel
theorem dX9_feed_46 : decode k_X9_feed.2.1 46 = .ok (.aload_n 0, 1) := by decide +kernel
theorem dX9_feed_47 : decode k_X9_feed.2.1 47 = .ok (.getfield 36, 3) := by decide +kernel
theorem dX9_feed_50 : decode k_X9_feed.2.1 50 = .ok (.invokevirtual 105, 3) := by decide +kernel
theorem dX9_feed_53 : decode k_X9_feed.2.1 53 = .ok (.ireturn, 1) := by decide +kernel
theorem dX9_text_0 : decode k_X9_text.2.1 0 = .ok (.aload_n 0, 1) := by decide +kernel
theorem dX9_text_1 : decode k_X9_text.2.1 1 = .ok (.iload_n 1, 1) := by decide +kernel
theorem dX9_text_2 : decode k_X9_text.2.1 2 = .ok (.invokevirtual 112, 3) := by decide +kernel
theorem dX9_text_5 : decode k_X9_text.2.1 5 = .ok (.ifCond .ne 6, 3) := by decide +kernel
theorem dX9_text_8 : decode k_X9_text.2.1 8 = .ok (.bipush (-3), 2) := by decide +kernel
theorem dX9_text_10 : decode k_X9_text.2.1 10 = .ok (.ireturn, 1) := by decide +kernel
theorem dX9_text_11 : decode k_X9_text.2.1 11 = .ok (.iload_n 1, 1) := by decide +kernel
theorem dX9_text_12 : decode k_X9_text.2.1 12 = .ok (.sipush 240, 3) := by decide +kernel
theorem dX9_text_15 : decode k_X9_text.2.1 15 = .ok (.if_icmp .le 12, 3) := by decide +kernel
theorem dX9_text_18 : decode k_X9_text.2.1 18 = .ok (.aload_n 0, 1) := by decide +kernel
theorem dX9_text_19 : decode k_X9_text.2.1 19 = .ok (.iconst 0, 1) := by decide +kernel
theorem dX9_text_20 : decode k_X9_text.2.1 20 = .ok (.iconst (-1), 1) := by decide +kernel
theorem dX9_text_21 : decode k_X9_text.2.1 21 = .ok (.invokevirtual 116, 3) := by decide +kernel
theorem dX9_text_24 : decode k_X9_text.2.1 24 = .ok (.bipush (-4), 2) := by decide +kernel
theorem dX9_text_26 : decode k_X9_text.2.1 26 = .ok (.ireturn, 1) := by decide +kernel
theorem dX9_text_27 : decode k_X9_text.2.1 27 = .ok (.aload_n 0, 1) := by decide +kernel
theorem dX9_text_28 : decode k_X9_text.2.1 28 = .ok (.iload_n 1, 1) := by decide +kernel
theorem dX9_text_29 : decode k_X9_text.2.1 29 = .ok (.invokevirtual 120, 3) := by decide +kernel
theorem dX9_text_32 : decode k_X9_text.2.1 32 = .ok (.istore_n 2, 1) := by decide +kernel
theorem dX9_text_33 : decode k_X9_text.2.1 33 = .ok (.iload_n 2, 1) := by decide +kernel
theorem dX9_text_34 : decode k_X9_text.2.1 34 = .ok (.iconst (-1), 1) := by decide +kernel
theorem dX9_text_35 : decode k_X9_text.2.1 35 = .ok (.if_icmp .eq 10, 3) := by decide +kernel
theorem dX9_text_38 : decode k_X9_text.2.1 38 = .ok (.aload_n 0, 1) := by decide +kernel
theorem dX9_text_39 : decode k_X9_text.2.1 39 = .ok (.iconst 1, 1) := by decide +kernel
theorem dX9_text_40 : decode k_X9_text.2.1 40 = .ok (.iload_n 2, 1) := by decide +kernel
theorem dX9_text_41 : decode k_X9_text.2.1 41 = .ok (.invokevirtual 124, 3) := by decide +kernel
theorem dX9_text_44 : decode k_X9_text.2.1 44 = .ok (.ireturn, 1) := by decide +kernel
theorem dX9_text_45 : decode k_X9_text.2.1 45 = .ok (.aload_n 0, 1) := by decide +kernel
theorem dX9_text_46 : decode k_X9_text.2.1 46 = .ok (.getfield 19, 3) := by decide +kernel
theorem dX9_text_49 : decode k_X9_text.2.1 49 = .ok (.aload_n 0, 1) := by decide +kernel
theorem dX9_text_50 : decode k_X9_text.2.1 50 = .ok (.getfield 12, 3) := by decide +kernel
theorem dX9_text_53 : decode k_X9_text.2.1 53 = .ok (.invokevirtual 128, 3) := by decide +kernel
theorem dX9_text_56 : decode k_X9_text.2.1 56 = .ok (.aload_n 0, 1) := by decide +kernel
theorem dX9_text_57 : decode k_X9_text.2.1 57 = .ok (.getfield 12, 3) := by decide +kernel
theorem dX9_text_60 : decode k_X9_text.2.1 60 = .ok (.invokevirtual 132, 3) := by decide +kernel
theorem dX9_text_63 : decode k_X9_text.2.1 63 = .ok (.aload_n 0, 1) := by decide +kernel
theorem dX9_text_64 : decode k_X9_text.2.1 64 = .ok (.iload_n 1, 1) := by decide +kernel
theorem dX9_text_65 : decode k_X9_text.2.1 65 = .ok (.aload_n 0, 1) := by decide +kernel
theorem dX9_text_66 : decode k_X9_text.2.1 66 = .ok (.getfield 12, 3) := by decide +kernel
theorem dX9_text_69 : decode k_X9_text.2.1 69 = .ok (.invokevirtual 135, 3) := by decide +kernel
theorem dX9_text_72 : decode k_X9_text.2.1 72 = .ok (.invokevirtual 139, 3) := by decide +kernel
theorem dX9_text_75 : decode k_X9_text.2.1 75 = .ok (.aload_n 0, 1) := by decide +kernel
theorem dX9_text_76 : decode k_X9_text.2.1 76 = .ok (.iconst 0, 1) := by decide +kernel
theorem dX9_text_77 : decode k_X9_text.2.1 77 = .ok (.putfield 71, 3) := by decide +kernel
theorem dX9_text_80 : decode k_X9_text.2.1 80 = .ok (.aload_n 0, 1) := by decide +kernel
theorem dX9_text_81 : decode k_X9_text.2.1 81 = .ok (.iconst 0, 1) := by decide +kernel
theorem dX9_text_82 : decode k_X9_text.2.1 82 = .ok (.iconst (-1), 1) := by decide +kernel
theorem dX9_text_83 : decode k_X9_text.2.1 83 = .ok (.invokevirtual 116, 3) := by decide +kernel
theorem dX9_text_86 : decode k_X9_text.2.1 86 = .ok (.iload_n 1, 1) := by decide +kernel
theorem dX9_text_87 : decode k_X9_text.2.1 87 = .ok (.ireturn, 1) := by decide +kernel
theorem dX9_phrase_0 : decode k_X9_phrase.2.1 0 = .ok (.aload_n 0, 1) := by decide +kernel
theorem dX9_phrase_1 : decode k_X9_phrase.2.1 1 = .ok (.iload_n 1, 1) := by decide +kernel
theorem dX9_phrase_2 : decode k_X9_phrase.2.1 2 = .ok (.invokevirtual 112, 3) := by decide +kernel
theorem dX9_phrase_5 : decode k_X9_phrase.2.1 5 = .ok (.ifCond .ne 6, 3) := by decide +kernel
theorem dX9_phrase_8 : decode k_X9_phrase.2.1 8 = .ok (.bipush (-3), 2) := by decide +kernel
theorem dX9_phrase_10 : decode k_X9_phrase.2.1 10 = .ok (.ireturn, 1) := by decide +kernel
theorem dX9_phrase_11 : decode k_X9_phrase.2.1 11 = .ok (.iload_n 1, 1) := by decide +kernel
theorem dX9_phrase_12 : decode k_X9_phrase.2.1 12 = .ok (.ifCond .eq 9, 3) := by decide +kernel
theorem dX9_phrase_15 : decode k_X9_phrase.2.1 15 = .ok (.iload_n 1, 1) := by decide +kernel
theorem dX9_phrase_16 : decode k_X9_phrase.2.1 16 = .ok (.bipush 20, 2) := by decide +kernel
theorem dX9_phrase_18 : decode k_X9_phrase.2.1 18 = .ok (.if_icmp .le 12, 3) := by decide +kernel
theorem dX9_phrase_21 : decode k_X9_phrase.2.1 21 = .ok (.aload_n 0, 1) := by decide +kernel
theorem dX9_phrase_22 : decode k_X9_phrase.2.1 22 = .ok (.iconst 0, 1) := by decide +kernel
theorem dX9_phrase_23 : decode k_X9_phrase.2.1 23 = .ok (.iconst (-1), 1) := by decide +kernel
theorem dX9_phrase_24 : decode k_X9_phrase.2.1 24 = .ok (.invokevirtual 116, 3) := by decide +kernel
theorem dX9_phrase_27 : decode k_X9_phrase.2.1 27 = .ok (.bipush (-4), 2) := by decide +kernel
theorem dX9_phrase_29 : decode k_X9_phrase.2.1 29 = .ok (.ireturn, 1) := by decide +kernel
theorem dX9_phrase_30 : decode k_X9_phrase.2.1 30 = .ok (.aload_n 0, 1) := by decide +kernel
theorem dX9_phrase_31 : decode k_X9_phrase.2.1 31 = .ok (.iload_n 1, 1) := by decide +kernel
theorem dX9_phrase_32 : decode k_X9_phrase.2.1 32 = .ok (.invokevirtual 120, 3) := by decide +kernel
theorem dX9_phrase_35 : decode k_X9_phrase.2.1 35 = .ok (.istore_n 2, 1) := by decide +kernel
theorem dX9_phrase_36 : decode k_X9_phrase.2.1 36 = .ok (.iload_n 2, 1) := by decide +kernel
theorem dX9_phrase_37 : decode k_X9_phrase.2.1 37 = .ok (.iconst (-1), 1) := by decide +kernel
theorem dX9_phrase_38 : decode k_X9_phrase.2.1 38 = .ok (.if_icmp .eq 10, 3) := by decide +kernel
theorem dX9_phrase_41 : decode k_X9_phrase.2.1 41 = .ok (.aload_n 0, 1) := by decide +kernel
theorem dX9_phrase_42 : decode k_X9_phrase.2.1 42 = .ok (.iconst 1, 1) := by decide +kernel
theorem dX9_phrase_43 : decode k_X9_phrase.2.1 43 = .ok (.iload_n 2, 1) := by decide +kernel
theorem dX9_phrase_44 : decode k_X9_phrase.2.1 44 = .ok (.invokevirtual 124, 3) := by decide +kernel
theorem dX9_phrase_47 : decode k_X9_phrase.2.1 47 = .ok (.ireturn, 1) := by decide +kernel
theorem dX9_phrase_48 : decode k_X9_phrase.2.1 48 = .ok (.aload_n 0, 1) := by decide +kernel
theorem dX9_phrase_49 : decode k_X9_phrase.2.1 49 = .ok (.getfield 40, 3) := by decide +kernel
theorem dX9_phrase_52 : decode k_X9_phrase.2.1 52 = .ok (.invokevirtual 143, 3) := by decide +kernel
theorem dX9_phrase_55 : decode k_X9_phrase.2.1 55 = .ok (.aload_n 0, 1) := by decide +kernel
theorem dX9_phrase_56 : decode k_X9_phrase.2.1 56 = .ok (.iload_n 1, 1) := by decide +kernel
theorem dX9_phrase_57 : decode k_X9_phrase.2.1 57 = .ok (.aload_n 0, 1) := by decide +kernel
theorem dX9_phrase_58 : decode k_X9_phrase.2.1 58 = .ok (.getfield 40, 3) := by decide +kernel
theorem dX9_phrase_61 : decode k_X9_phrase.2.1 61 = .ok (.invokevirtual 139, 3) := by decide +kernel
theorem dX9_phrase_64 : decode k_X9_phrase.2.1 64 = .ok (.aload_n 0, 1) := by decide +kernel
theorem dX9_phrase_65 : decode k_X9_phrase.2.1 65 = .ok (.iconst 0, 1) := by decide +kernel
theorem dX9_phrase_66 : decode k_X9_phrase.2.1 66 = .ok (.iconst (-1), 1) := by decide +kernel
theorem dX9_phrase_67 : decode k_X9_phrase.2.1 67 = .ok (.invokevirtual 116, 3) := by decide +kernel
theorem dX9_phrase_70 : decode k_X9_phrase.2.1 70 = .ok (.aload_n 0, 1) := by decide +kernel
theorem dX9_phrase_71 : decode k_X9_phrase.2.1 71 = .ok (.invokevirtual 144, 3) := by decide +kernel
theorem dX9_phrase_74 : decode k_X9_phrase.2.1 74 = .ok (.aload_n 0, 1) := by decide +kernel
theorem dX9_phrase_75 : decode k_X9_phrase.2.1 75 = .ok (.getfield 67, 3) := by decide +kernel
theorem dX9_phrase_78 : decode k_X9_phrase.2.1 78 = .ok (.aload_n 0, 1) := by decide +kernel
theorem dX9_phrase_79 : decode k_X9_phrase.2.1 79 = .ok (.getfield 40, 3) := by decide +kernel
theorem dX9_phrase_82 : decode k_X9_phrase.2.1 82 = .ok (.invokevirtual 147, 3) := by decide +kernel
theorem dX9_phrase_85 : decode k_X9_phrase.2.1 85 = .ok (.ireturn, 1) := by decide +kernel
theorem dX9_load_0 : decode k_X9_load.2.1 0 = .ok (.aload_n 0, 1) := by decide +kernel
theorem dX9_load_1 : decode k_X9_load.2.1 1 = .ok (.iload_n 1, 1) := by decide +kernel
theorem dX9_load_2 : decode k_X9_load.2.1 2 = .ok (.invokevirtual 112, 3) := by decide +kernel
theorem dX9_load_5 : decode k_X9_load.2.1 5 = .ok (.ifCond .ne 6, 3) := by decide +kernel
theorem dX9_load_8 : decode k_X9_load.2.1 8 = .ok (.bipush (-3), 2) := by decide +kernel
theorem dX9_load_10 : decode k_X9_load.2.1 10 = .ok (.ireturn, 1) := by decide +kernel
theorem dX9_load_11 : decode k_X9_load.2.1 11 = .ok (.aload_n 0, 1) := by decide +kernel
theorem dX9_load_12 : decode k_X9_load.2.1 12 = .ok (.getfield 46, 3) := by decide +kernel
theorem dX9_load_15 : decode k_X9_load.2.1 15 = .ok (.aload_n 0, 1) := by decide +kernel
theorem dX9_load_16 : decode k_X9_load.2.1 16 = .ok (.getfield 36, 3) := by decide +kernel
theorem dX9_load_19 : decode k_X9_load.2.1 19 = .ok (.iload_n 1, 1) := by decide +kernel
theorem dX9_load_20 : decode k_X9_load.2.1 20 = .ok (.invokevirtual 151, 3) := by decide +kernel
theorem dX9_load_23 : decode k_X9_load.2.1 23 = .ok (.aload_n 0, 1) := by decide +kernel
theorem dX9_load_24 : decode k_X9_load.2.1 24 = .ok (.getfield 46, 3) := by decide +kernel
theorem dX9_load_27 : decode k_X9_load.2.1 27 = .ok (.invokevirtual 155, 3) := by decide +kernel
theorem dX9_load_30 : decode k_X9_load.2.1 30 = .ok (.ifCond .eq 22, 3) := by decide +kernel
theorem dX9_load_33 : decode k_X9_load.2.1 33 = .ok (.aload_n 0, 1) := by decide +kernel
theorem dX9_load_34 : decode k_X9_load.2.1 34 = .ok (.aload_n 0, 1) := by decide +kernel
theorem dX9_load_35 : decode k_X9_load.2.1 35 = .ok (.getfield 46, 3) := by decide +kernel
theorem dX9_load_38 : decode k_X9_load.2.1 38 = .ok (.invokevirtual 155, 3) := by decide +kernel
theorem dX9_load_41 : decode k_X9_load.2.1 41 = .ok (.aload_n 0, 1) := by decide +kernel
theorem dX9_load_42 : decode k_X9_load.2.1 42 = .ok (.getfield 46, 3) := by decide +kernel
theorem dX9_load_45 : decode k_X9_load.2.1 45 = .ok (.invokevirtual 157, 3) := by decide +kernel
theorem dX9_load_48 : decode k_X9_load.2.1 48 = .ok (.invokevirtual 124, 3) := by decide +kernel
theorem dX9_load_51 : decode k_X9_load.2.1 51 = .ok (.ireturn, 1) := by decide +kernel
theorem dX9_load_52 : decode k_X9_load.2.1 52 = .ok (.aload_n 0, 1) := by decide +kernel
theorem dX9_load_53 : decode k_X9_load.2.1 53 = .ok (.getfield 19, 3) := by decide +kernel
theorem dX9_load_56 : decode k_X9_load.2.1 56 = .ok (.aload_n 0, 1) := by decide +kernel
theorem dX9_load_57 : decode k_X9_load.2.1 57 = .ok (.getfield 12, 3) := by decide +kernel
theorem dX9_load_60 : decode k_X9_load.2.1 60 = .ok (.invokevirtual 128, 3) := by decide +kernel
theorem dX9_load_63 : decode k_X9_load.2.1 63 = .ok (.aload_n 0, 1) := by decide +kernel
theorem dX9_load_64 : decode k_X9_load.2.1 64 = .ok (.getfield 12, 3) := by decide +kernel
theorem dX9_load_67 : decode k_X9_load.2.1 67 = .ok (.aload_n 0, 1) := by decide +kernel
theorem dX9_load_68 : decode k_X9_load.2.1 68 = .ok (.getfield 46, 3) := by decide +kernel
theorem dX9_load_71 : decode k_X9_load.2.1 71 = .ok (.invokevirtual 159, 3) := by decide +kernel
theorem dX9_load_74 : decode k_X9_load.2.1 74 = .ok (.invokevirtual 162, 3) := by decide +kernel
theorem dX9_load_77 : decode k_X9_load.2.1 77 = .ok (.aload_n 0, 1) := by decide +kernel
theorem dX9_load_78 : decode k_X9_load.2.1 78 = .ok (.iconst 0, 1) := by decide +kernel
theorem dX9_load_79 : decode k_X9_load.2.1 79 = .ok (.putfield 71, 3) := by decide +kernel
theorem dX9_load_82 : decode k_X9_load.2.1 82 = .ok (.aload_n 0, 1) := by decide +kernel
theorem dX9_load_83 : decode k_X9_load.2.1 83 = .ok (.iconst 0, 1) := by decide +kernel
theorem dX9_load_84 : decode k_X9_load.2.1 84 = .ok (.iconst (-1), 1) := by decide +kernel
theorem dX9_load_85 : decode k_X9_load.2.1 85 = .ok (.invokevirtual 116, 3) := by decide +kernel
theorem dX9_load_88 : decode k_X9_load.2.1 88 = .ok (.aload_n 0, 1) := by decide +kernel
theorem dX9_load_89 : decode k_X9_load.2.1 89 = .ok (.invokevirtual 165, 3) := by decide +kernel
theorem dX9_load_92 : decode k_X9_load.2.1 92 = .ok (.ireturn, 1) := by decide +kernel
theorem dX9_fault_0 : decode k_X9_fault.2.1 0 = .ok (.iload_n 1, 1) := by decide +kernel
theorem dX9_fault_1 : decode k_X9_fault.2.1 1 = .ok (.ifCond .ne 8, 3) := by decide +kernel
theorem dX9_fault_4 : decode k_X9_fault.2.1 4 = .ok (.aload_n 0, 1) := by decide +kernel
theorem dX9_fault_5 : decode k_X9_fault.2.1 5 = .ok (.getfield 50, 3) := by decide +kernel
theorem dX9_fault_8 : decode k_X9_fault.2.1 8 = .ok (.ireturn, 1) := by decide +kernel
theorem dX9_fault_9 : decode k_X9_fault.2.1 9 = .ok (.iload_n 1, 1) := by decide +kernel
theorem dX9_fault_10 : decode k_X9_fault.2.1 10 = .ok (.iconst 1, 1) := by decide +kernel
theorem dX9_fault_11 : decode k_X9_fault.2.1 11 = .ok (.if_icmp .ne 10, 3) := by decide +kernel
theorem dX9_fault_14 : decode k_X9_fault.2.1 14 = .ok (.aload_n 0, 1) := by decide +kernel
theorem dX9_fault_15 : decode k_X9_fault.2.1 15 = .ok (.getfield 54, 3) := by decide +kernel
theorem dX9_fault_18 : decode k_X9_fault.2.1 18 = .ok (.goto 4, 3) := by decide +kernel
theorem dX9_fault_21 : decode k_X9_fault.2.1 21 = .ok (.iconst (-1), 1) := by decide +kernel
theorem dX9_fault_22 : decode k_X9_fault.2.1 22 = .ok (.ireturn, 1) := by decide +kernel
theorem dX9_step_0 : decode k_X9_step.2.1 0 = .ok (.aload_n 0, 1) := by decide +kernel
theorem dX9_step_1 : decode k_X9_step.2.1 1 = .ok (.getfield 84, 3) := by decide +kernel
theorem dX9_step_4 : decode k_X9_step.2.1 4 = .ok (.aload_n 0, 1) := by decide +kernel
theorem dX9_step_5 : decode k_X9_step.2.1 5 = .ok (.getfield 12, 3) := by decide +kernel
theorem dX9_step_8 : decode k_X9_step.2.1 8 = .ok (.invokevirtual 135, 3) := by decide +kernel
theorem dX9_step_11 : decode k_X9_step.2.1 11 = .ok (.invokevirtual 168, 3) := by decide +kernel
theorem dX9_step_14 : decode k_X9_step.2.1 14 = .ok (.aload_n 0, 1) := by decide +kernel
theorem dX9_step_15 : decode k_X9_step.2.1 15 = .ok (.getfield 84, 3) := by decide +kernel
theorem dX9_step_18 : decode k_X9_step.2.1 18 = .ok (.iconst 0, 1) := by decide +kernel
theorem dX9_step_19 : decode k_X9_step.2.1 19 = .ok (.invokevirtual 172, 3) := by decide +kernel
theorem dX9_step_22 : decode k_X9_step.2.1 22 = .ok (.istore_n 1, 1) := by decide +kernel
theorem dX9_step_23 : decode k_X9_step.2.1 23 = .ok (.iload_n 1, 1) := by decide +kernel
theorem dX9_step_24 : decode k_X9_step.2.1 24 = .ok (.iconst (-1), 1) := by decide +kernel
theorem dX9_step_25 : decode k_X9_step.2.1 25 = .ok (.if_icmp .ne 5, 3) := by decide +kernel
theorem dX9_step_28 : decode k_X9_step.2.1 28 = .ok (.iconst (-1), 1) := by decide +kernel
theorem dX9_step_29 : decode k_X9_step.2.1 29 = .ok (.ireturn, 1) := by decide +kernel
theorem dX9_step_30 : decode k_X9_step.2.1 30 = .ok (.aload_n 0, 1) := by decide +kernel
theorem dX9_step_31 : decode k_X9_step.2.1 31 = .ok (.iload_n 1, 1) := by decide +kernel
theorem dX9_step_32 : decode k_X9_step.2.1 32 = .ok (.invokestatic 175, 3) := by decide +kernel
theorem dX9_step_35 : decode k_X9_step.2.1 35 = .ok (.iload_n 1, 1) := by decide +kernel
theorem dX9_step_36 : decode k_X9_step.2.1 36 = .ok (.invokestatic 178, 3) := by decide +kernel
theorem dX9_step_39 : decode k_X9_step.2.1 39 = .ok (.invokevirtual 181, 3) := by decide +kernel
theorem dX9_step_42 : decode k_X9_step.2.1 42 = .ok (.ireturn, 1) := by decide +kernel
theorem dX9_pack_0 : decode k_X9_pack.2.1 0 = .ok (.aload_n 0, 1) := by decide +kernel
theorem dX9_pack_1 : decode k_X9_pack.2.1 1 = .ok (.getfield 19, 3) := by decide +kernel
theorem dX9_pack_4 : decode k_X9_pack.2.1 4 = .ok (.aload_n 0, 1) := by decide +kernel
theorem dX9_pack_5 : decode k_X9_pack.2.1 5 = .ok (.getfield 12, 3) := by decide +kernel
theorem dX9_pack_8 : decode k_X9_pack.2.1 8 = .ok (.invokevirtual 128, 3) := by decide +kernel
theorem dX9_pack_11 : decode k_X9_pack.2.1 11 = .ok (.aload_n 0, 1) := by decide +kernel
theorem dX9_pack_12 : decode k_X9_pack.2.1 12 = .ok (.iconst 0, 1) := by decide +kernel
theorem dX9_pack_13 : decode k_X9_pack.2.1 13 = .ok (.putfield 71, 3) := by decide +kernel
theorem dX9_pack_16 : decode k_X9_pack.2.1 16 = .ok (.iconst 0, 1) := by decide +kernel
theorem dX9_pack_17 : decode k_X9_pack.2.1 17 = .ok (.istore_n 1, 1) := by decide +kernel
theorem dX9_pack_18 : decode k_X9_pack.2.1 18 = .ok (.iload_n 1, 1) := by decide +kernel
theorem dX9_pack_19 : decode k_X9_pack.2.1 19 = .ok (.sipush 240, 3) := by decide +kernel
theorem dX9_pack_22 : decode k_X9_pack.2.1 22 = .ok (.if_icmp .ge 16, 3) := by decide +kernel
theorem dX9_pack_25 : decode k_X9_pack.2.1 25 = .ok (.aload_n 0, 1) := by decide +kernel
theorem dX9_pack_26 : decode k_X9_pack.2.1 26 = .ok (.invokevirtual 184, 3) := by decide +kernel
theorem dX9_pack_29 : decode k_X9_pack.2.1 29 = .ok (.ifCond .eq 9, 3) := by decide +kernel
theorem dX9_pack_32 : decode k_X9_pack.2.1 32 = .ok (.iinc 1 1, 3) := by decide +kernel
theorem dX9_pack_35 : decode k_X9_pack.2.1 35 = .ok (.goto (-17), 3) := by decide +kernel
theorem dX9_pack_38 : decode k_X9_pack.2.1 38 = .ok (.iload_n 1, 1) := by decide +kernel
theorem dX9_pack_39 : decode k_X9_pack.2.1 39 = .ok (.ireturn, 1) := by decide +kernel
theorem dX9_replace_0 : decode k_X9_replace.2.1 0 = .ok (.aload_n 0, 1) := by decide +kernel
theorem dX9_replace_1 : decode k_X9_replace.2.1 1 = .ok (.getfield 12, 3) := by decide +kernel
theorem dX9_replace_4 : decode k_X9_replace.2.1 4 = .ok (.iload_n 1, 1) := by decide +kernel
theorem dX9_replace_5 : decode k_X9_replace.2.1 5 = .ok (.invokevirtual 188, 3) := by decide +kernel
theorem dX9_replace_8 : decode k_X9_replace.2.1 8 = .ok (.ifCond .eq 14, 3) := by decide +kernel
theorem dX9_replace_11 : decode k_X9_replace.2.1 11 = .ok (.aload_n 0, 1) := by decide +kernel
theorem dX9_replace_12 : decode k_X9_replace.2.1 12 = .ok (.getfield 12, 3) := by decide +kernel
theorem dX9_replace_15 : decode k_X9_replace.2.1 15 = .ok (.iload_n 2, 1) := by decide +kernel
theorem dX9_replace_16 : decode k_X9_replace.2.1 16 = .ok (.invokevirtual 188, 3) := by decide +kernel
theorem dX9_replace_19 : decode k_X9_replace.2.1 19 = .ok (.ifCond .ne 6, 3) := by decide +kernel
theorem dX9_replace_22 : decode k_X9_replace.2.1 22 = .ok (.bipush (-2), 2) := by decide +kernel
theorem dX9_replace_24 : decode k_X9_replace.2.1 24 = .ok (.ireturn, 1) := by decide +kernel
theorem dX9_replace_25 : decode k_X9_replace.2.1 25 = .ok (.aload_n 0, 1) := by decide +kernel
theorem dX9_replace_26 : decode k_X9_replace.2.1 26 = .ok (.getfield 84, 3) := by decide +kernel
theorem dX9_replace_29 : decode k_X9_replace.2.1 29 = .ok (.aload_n 0, 1) := by decide +kernel
theorem dX9_replace_30 : decode k_X9_replace.2.1 30 = .ok (.getfield 12, 3) := by decide +kernel
theorem dX9_replace_33 : decode k_X9_replace.2.1 33 = .ok (.invokevirtual 135, 3) := by decide +kernel
theorem dX9_replace_36 : decode k_X9_replace.2.1 36 = .ok (.invokevirtual 168, 3) := by decide +kernel
theorem dX9_replace_39 : decode k_X9_replace.2.1 39 = .ok (.aload_n 0, 1) := by decide +kernel
theorem dX9_replace_40 : decode k_X9_replace.2.1 40 = .ok (.getfield 84, 3) := by decide +kernel
theorem dX9_replace_43 : decode k_X9_replace.2.1 43 = .ok (.iload_n 1, 1) := by decide +kernel
theorem dX9_replace_44 : decode k_X9_replace.2.1 44 = .ok (.iload_n 2, 1) := by decide +kernel
theorem dX9_replace_45 : decode k_X9_replace.2.1 45 = .ok (.invokevirtual 191, 3) := by decide +kernel
theorem dX9_replace_48 : decode k_X9_replace.2.1 48 = .ok (.ifCond .ne 6, 3) := by decide +kernel
theorem dX9_replace_51 : decode k_X9_replace.2.1 51 = .ok (.bipush (-5), 2) := by decide +kernel
theorem dX9_replace_53 : decode k_X9_replace.2.1 53 = .ok (.ireturn, 1) := by decide +kernel
theorem dX9_replace_54 : decode k_X9_replace.2.1 54 = .ok (.aload_n 0, 1) := by decide +kernel
theorem dX9_replace_55 : decode k_X9_replace.2.1 55 = .ok (.iload_n 1, 1) := by decide +kernel
theorem dX9_replace_56 : decode k_X9_replace.2.1 56 = .ok (.iload_n 2, 1) := by decide +kernel
theorem dX9_replace_57 : decode k_X9_replace.2.1 57 = .ok (.invokevirtual 181, 3) := by decide +kernel
theorem dX9_replace_60 : decode k_X9_replace.2.1 60 = .ok (.ireturn, 1) := by decide +kernel
theorem dX9_drop_0 : decode k_X9_drop.2.1 0 = .ok (.aload_n 0, 1) := by decide +kernel
theorem dX9_drop_1 : decode k_X9_drop.2.1 1 = .ok (.getfield 12, 3) := by decide +kernel
theorem dX9_drop_4 : decode k_X9_drop.2.1 4 = .ok (.iload_n 1, 1) := by decide +kernel
theorem dX9_drop_5 : decode k_X9_drop.2.1 5 = .ok (.invokevirtual 194, 3) := by decide +kernel
theorem dX9_drop_8 : decode k_X9_drop.2.1 8 = .ok (.ifCond .ne 6, 3) := by decide +kernel
theorem dX9_drop_11 : decode k_X9_drop.2.1 11 = .ok (.bipush (-2), 2) := by decide +kernel
theorem dX9_drop_13 : decode k_X9_drop.2.1 13 = .ok (.ireturn, 1) := by decide +kernel
theorem dX9_drop_14 : decode k_X9_drop.2.1 14 = .ok (.aload_n 0, 1) := by decide +kernel
theorem dX9_drop_15 : decode k_X9_drop.2.1 15 = .ok (.getfield 12, 3) := by decide +kernel
theorem dX9_drop_18 : decode k_X9_drop.2.1 18 = .ok (.iload_n 1, 1) := by decide +kernel
theorem dX9_drop_19 : decode k_X9_drop.2.1 19 = .ok (.invokevirtual 197, 3) := by decide +kernel
theorem dX9_drop_22 : decode k_X9_drop.2.1 22 = .ok (.ifCond .ne 6, 3) := by decide +kernel
theorem dX9_drop_25 : decode k_X9_drop.2.1 25 = .ok (.bipush (-5), 2) := by decide +kernel
theorem dX9_drop_27 : decode k_X9_drop.2.1 27 = .ok (.ireturn, 1) := by decide +kernel
theorem dX9_drop_28 : decode k_X9_drop.2.1 28 = .ok (.aload_n 0, 1) := by decide +kernel
theorem dX9_drop_29 : decode k_X9_drop.2.1 29 = .ok (.getfield 19, 3) := by decide +kernel
theorem dX9_drop_32 : decode k_X9_drop.2.1 32 = .ok (.aload_n 0, 1) := by decide +kernel
theorem dX9_drop_33 : decode k_X9_drop.2.1 33 = .ok (.getfield 12, 3) := by decide +kernel
theorem dX9_drop_36 : decode k_X9_drop.2.1 36 = .ok (.invokevirtual 128, 3) := by decide +kernel
theorem dX9_drop_39 : decode k_X9_drop.2.1 39 = .ok (.aload_n 0, 1) := by decide +kernel
theorem dX9_drop_40 : decode k_X9_drop.2.1 40 = .ok (.getfield 12, 3) := by decide +kernel
theorem dX9_drop_43 : decode k_X9_drop.2.1 43 = .ok (.iload_n 1, 1) := by decide +kernel
theorem dX9_drop_44 : decode k_X9_drop.2.1 44 = .ok (.invokevirtual 200, 3) := by decide +kernel
theorem dX9_drop_47 : decode k_X9_drop.2.1 47 = .ok (.aload_n 0, 1) := by decide +kernel
theorem dX9_drop_48 : decode k_X9_drop.2.1 48 = .ok (.iconst 0, 1) := by decide +kernel
theorem dX9_drop_49 : decode k_X9_drop.2.1 49 = .ok (.putfield 71, 3) := by decide +kernel
theorem dX9_drop_52 : decode k_X9_drop.2.1 52 = .ok (.aload_n 0, 1) := by decide +kernel
theorem dX9_drop_53 : decode k_X9_drop.2.1 53 = .ok (.getfield 12, 3) := by decide +kernel
theorem dX9_drop_56 : decode k_X9_drop.2.1 56 = .ok (.invokevirtual 203, 3) := by decide +kernel
theorem dX9_drop_59 : decode k_X9_drop.2.1 59 = .ok (.ireturn, 1) := by decide +kernel
theorem dX9_trim_0 : decode k_X9_trim.2.1 0 = .ok (.aload_n 0, 1) := by decide +kernel
theorem dX9_trim_1 : decode k_X9_trim.2.1 1 = .ok (.getfield 19, 3) := by decide +kernel
theorem dX9_trim_4 : decode k_X9_trim.2.1 4 = .ok (.aload_n 0, 1) := by decide +kernel
theorem dX9_trim_5 : decode k_X9_trim.2.1 5 = .ok (.getfield 12, 3) := by decide +kernel
theorem dX9_trim_8 : decode k_X9_trim.2.1 8 = .ok (.invokevirtual 128, 3) := by decide +kernel
theorem dX9_trim_11 : decode k_X9_trim.2.1 11 = .ok (.aload_n 0, 1) := by decide +kernel
theorem dX9_trim_12 : decode k_X9_trim.2.1 12 = .ok (.iconst 0, 1) := by decide +kernel
theorem dX9_trim_13 : decode k_X9_trim.2.1 13 = .ok (.putfield 71, 3) := by decide +kernel
theorem dX9_trim_16 : decode k_X9_trim.2.1 16 = .ok (.iconst 0, 1) := by decide +kernel
theorem dX9_trim_17 : decode k_X9_trim.2.1 17 = .ok (.istore_n 1, 1) := by decide +kernel
theorem dX9_trim_18 : decode k_X9_trim.2.1 18 = .ok (.iconst 0, 1) := by decide +kernel
theorem dX9_trim_19 : decode k_X9_trim.2.1 19 = .ok (.istore_n 2, 1) := by decide +kernel
theorem dX9_trim_20 : decode k_X9_trim.2.1 20 = .ok (.iload_n 2, 1) := by decide +kernel
theorem dX9_trim_21 : decode k_X9_trim.2.1 21 = .ok (.bipush 60, 2) := by decide +kernel
theorem dX9_trim_23 : decode k_X9_trim.2.1 23 = .ok (.if_icmp .ge 35, 3) := by decide +kernel
theorem dX9_trim_26 : decode k_X9_trim.2.1 26 = .ok (.aload_n 0, 1) := by decide +kernel
theorem dX9_trim_27 : decode k_X9_trim.2.1 27 = .ok (.getfield 12, 3) := by decide +kernel
theorem dX9_trim_30 : decode k_X9_trim.2.1 30 = .ok (.invokevirtual 204, 3) := by decide +kernel
theorem dX9_trim_33 : decode k_X9_trim.2.1 33 = .ok (.istore_n 3, 1) := by decide +kernel
theorem dX9_trim_34 : decode k_X9_trim.2.1 34 = .ok (.iload_n 3, 1) := by decide +kernel
theorem dX9_trim_35 : decode k_X9_trim.2.1 35 = .ok (.iconst (-1), 1) := by decide +kernel
theorem dX9_trim_36 : decode k_X9_trim.2.1 36 = .ok (.if_icmp .ne 5, 3) := by decide +kernel
theorem dX9_trim_39 : decode k_X9_trim.2.1 39 = .ok (.iload_n 1, 1) := by decide +kernel
theorem dX9_trim_40 : decode k_X9_trim.2.1 40 = .ok (.ireturn, 1) := by decide +kernel
theorem dX9_trim_41 : decode k_X9_trim.2.1 41 = .ok (.aload_n 0, 1) := by decide +kernel
theorem dX9_trim_42 : decode k_X9_trim.2.1 42 = .ok (.getfield 12, 3) := by decide +kernel
theorem dX9_trim_45 : decode k_X9_trim.2.1 45 = .ok (.iload_n 3, 1) := by decide +kernel
theorem dX9_trim_46 : decode k_X9_trim.2.1 46 = .ok (.invokevirtual 200, 3) := by decide +kernel
theorem dX9_trim_49 : decode k_X9_trim.2.1 49 = .ok (.iinc 1 1, 3) := by decide +kernel
theorem dX9_trim_52 : decode k_X9_trim.2.1 52 = .ok (.iinc 2 1, 3) := by decide +kernel
theorem dX9_trim_55 : decode k_X9_trim.2.1 55 = .ok (.goto (-35), 3) := by decide +kernel
theorem dX9_trim_58 : decode k_X9_trim.2.1 58 = .ok (.iload_n 1, 1) := by decide +kernel
theorem dX9_trim_59 : decode k_X9_trim.2.1 59 = .ok (.ireturn, 1) := by decide +kernel
theorem dX9_unpack_0 : decode k_X9_unpack.2.1 0 = .ok (.aload_n 0, 1) := by decide +kernel
theorem dX9_unpack_1 : decode k_X9_unpack.2.1 1 = .ok (.invokevirtual 144, 3) := by decide +kernel
theorem dX9_unpack_4 : decode k_X9_unpack.2.1 4 = .ok (.aload_n 0, 1) := by decide +kernel
theorem dX9_unpack_5 : decode k_X9_unpack.2.1 5 = .ok (.getfield 19, 3) := by decide +kernel
theorem dX9_unpack_8 : decode k_X9_unpack.2.1 8 = .ok (.aload_n 0, 1) := by decide +kernel
theorem dX9_unpack_9 : decode k_X9_unpack.2.1 9 = .ok (.getfield 12, 3) := by decide +kernel
theorem dX9_unpack_12 : decode k_X9_unpack.2.1 12 = .ok (.invokevirtual 128, 3) := by decide +kernel
theorem dX9_unpack_15 : decode k_X9_unpack.2.1 15 = .ok (.aload_n 0, 1) := by decide +kernel
theorem dX9_unpack_16 : decode k_X9_unpack.2.1 16 = .ok (.getfield 12, 3) := by decide +kernel
theorem dX9_unpack_19 : decode k_X9_unpack.2.1 19 = .ok (.invokevirtual 132, 3) := by decide +kernel
theorem dX9_unpack_22 : decode k_X9_unpack.2.1 22 = .ok (.iconst 0, 1) := by decide +kernel
theorem dX9_unpack_23 : decode k_X9_unpack.2.1 23 = .ok (.istore_n 1, 1) := by decide +kernel
theorem dX9_unpack_24 : decode k_X9_unpack.2.1 24 = .ok (.iload_n 1, 1) := by decide +kernel
theorem dX9_unpack_25 : decode k_X9_unpack.2.1 25 = .ok (.aload_n 0, 1) := by decide +kernel
theorem dX9_unpack_26 : decode k_X9_unpack.2.1 26 = .ok (.getfield 67, 3) := by decide +kernel
theorem dX9_unpack_29 : decode k_X9_unpack.2.1 29 = .ok (.invokevirtual 207, 3) := by decide +kernel
theorem dX9_unpack_32 : decode k_X9_unpack.2.1 32 = .ok (.if_icmp .ge 27, 3) := by decide +kernel
theorem dX9_unpack_35 : decode k_X9_unpack.2.1 35 = .ok (.aload_n 0, 1) := by decide +kernel
theorem dX9_unpack_36 : decode k_X9_unpack.2.1 36 = .ok (.getfield 12, 3) := by decide +kernel
theorem dX9_unpack_39 : decode k_X9_unpack.2.1 39 = .ok (.invokevirtual 135, 3) := by decide +kernel
theorem dX9_unpack_42 : decode k_X9_unpack.2.1 42 = .ok (.aload_n 0, 1) := by decide +kernel
theorem dX9_unpack_43 : decode k_X9_unpack.2.1 43 = .ok (.getfield 67, 3) := by decide +kernel
theorem dX9_unpack_46 : decode k_X9_unpack.2.1 46 = .ok (.iload_n 1, 1) := by decide +kernel
theorem dX9_unpack_47 : decode k_X9_unpack.2.1 47 = .ok (.invokevirtual 208, 3) := by decide +kernel
theorem dX9_unpack_50 : decode k_X9_unpack.2.1 50 = .ok (.invokevirtual 211, 3) := by decide +kernel
theorem dX9_unpack_53 : decode k_X9_unpack.2.1 53 = .ok (.iinc 1 1, 3) := by decide +kernel
theorem dX9_unpack_56 : decode k_X9_unpack.2.1 56 = .ok (.goto (-32), 3) := by decide +kernel
theorem dX9_unpack_59 : decode k_X9_unpack.2.1 59 = .ok (.aload_n 0, 1) := by decide +kernel
theorem dX9_unpack_60 : decode k_X9_unpack.2.1 60 = .ok (.iconst 0, 1) := by decide +kernel
theorem dX9_unpack_61 : decode k_X9_unpack.2.1 61 = .ok (.putfield 71, 3) := by decide +kernel
theorem dX9_unpack_64 : decode k_X9_unpack.2.1 64 = .ok (.aload_n 0, 1) := by decide +kernel
theorem dX9_unpack_65 : decode k_X9_unpack.2.1 65 = .ok (.getfield 12, 3) := by decide +kernel
theorem dX9_unpack_68 : decode k_X9_unpack.2.1 68 = .ok (.invokevirtual 135, 3) := by decide +kernel
theorem dX9_unpack_71 : decode k_X9_unpack.2.1 71 = .ok (.invokevirtual 105, 3) := by decide +kernel
theorem dX9_unpack_74 : decode k_X9_unpack.2.1 74 = .ok (.ireturn, 1) := by decide +kernel
theorem dX9_put_0 : decode k_X9_put.2.1 0 = .ok (.iload_n 2, 1) := by decide +kernel
theorem dX9_put_1 : decode k_X9_put.2.1 1 = .ok (.invokestatic 214, 3) := by decide +kernel
theorem dX9_put_4 : decode k_X9_put.2.1 4 = .ok (.ifCond .ne 6, 3) := by decide +kernel
theorem dX9_put_7 : decode k_X9_put.2.1 7 = .ok (.bipush (-2), 2) := by decide +kernel
theorem dX9_put_9 : decode k_X9_put.2.1 9 = .ok (.ireturn, 1) := by decide +kernel
theorem dX9_put_10 : decode k_X9_put.2.1 10 = .ok (.aload_n 0, 1) := by decide +kernel
theorem dX9_put_11 : decode k_X9_put.2.1 11 = .ok (.invokevirtual 144, 3) := by decide +kernel
theorem dX9_put_14 : decode k_X9_put.2.1 14 = .ok (.aload_n 0, 1) := by decide +kernel
theorem dX9_put_15 : decode k_X9_put.2.1 15 = .ok (.getfield 67, 3) := by decide +kernel
theorem dX9_put_18 : decode k_X9_put.2.1 18 = .ok (.iload_n 1, 1) := by decide +kernel
theorem dX9_put_19 : decode k_X9_put.2.1 19 = .ok (.invokevirtual 217, 3) := by decide +kernel
theorem dX9_put_22 : decode k_X9_put.2.1 22 = .ok (.ifCond .ne 6, 3) := by decide +kernel
theorem dX9_put_25 : decode k_X9_put.2.1 25 = .ok (.bipush (-5), 2) := by decide +kernel
theorem dX9_put_27 : decode k_X9_put.2.1 27 = .ok (.ireturn, 1) := by decide +kernel
theorem dX9_put_28 : decode k_X9_put.2.1 28 = .ok (.aload_n 0, 1) := by decide +kernel
theorem dX9_put_29 : decode k_X9_put.2.1 29 = .ok (.getfield 67, 3) := by decide +kernel
theorem dX9_put_32 : decode k_X9_put.2.1 32 = .ok (.iload_n 1, 1) := by decide +kernel
theorem dX9_put_33 : decode k_X9_put.2.1 33 = .ok (.invokevirtual 208, 3) := by decide +kernel
theorem dX9_put_36 : decode k_X9_put.2.1 36 = .ok (.istore_n 3, 1) := by decide +kernel
theorem dX9_put_37 : decode k_X9_put.2.1 37 = .ok (.aload_n 0, 1) := by decide +kernel
theorem dX9_put_38 : decode k_X9_put.2.1 38 = .ok (.getfield 19, 3) := by decide +kernel
theorem dX9_put_41 : decode k_X9_put.2.1 41 = .ok (.aload_n 0, 1) := by decide +kernel
theorem dX9_put_42 : decode k_X9_put.2.1 42 = .ok (.getfield 12, 3) := by decide +kernel
theorem dX9_put_45 : decode k_X9_put.2.1 45 = .ok (.invokevirtual 128, 3) := by decide +kernel
theorem dX9_put_48 : decode k_X9_put.2.1 48 = .ok (.aload_n 0, 1) := by decide +kernel
theorem dX9_put_49 : decode k_X9_put.2.1 49 = .ok (.getfield 12, 3) := by decide +kernel
theorem dX9_put_52 : decode k_X9_put.2.1 52 = .ok (.iload_n 1, 1) := by decide +kernel
theorem dX9_put_53 : decode k_X9_put.2.1 53 = .ok (.aload_n 0, 1) := by decide +kernel
theorem dX9_put_54 : decode k_X9_put.2.1 54 = .ok (.getfield 60, 3) := by decide +kernel
theorem dX9_put_57 : decode k_X9_put.2.1 57 = .ok (.invokevirtual 220, 3) := by decide +kernel
theorem dX9_put_60 : decode k_X9_put.2.1 60 = .ok (.istore 4, 2) := by decide +kernel
theorem dX9_put_62 : decode k_X9_put.2.1 62 = .ok (.aload_n 0, 1) := by decide +kernel
theorem dX9_put_63 : decode k_X9_put.2.1 63 = .ok (.getfield 12, 3) := by decide +kernel
theorem dX9_put_66 : decode k_X9_put.2.1 66 = .ok (.iload_n 1, 1) := by decide +kernel
theorem dX9_put_67 : decode k_X9_put.2.1 67 = .ok (.iconst 1, 1) := by decide +kernel
theorem dX9_put_68 : decode k_X9_put.2.1 68 = .ok (.iadd, 1) := by decide +kernel
theorem dX9_put_69 : decode k_X9_put.2.1 69 = .ok (.aload_n 0, 1) := by decide +kernel
theorem dX9_put_70 : decode k_X9_put.2.1 70 = .ok (.getfield 60, 3) := by decide +kernel
theorem dX9_put_73 : decode k_X9_put.2.1 73 = .ok (.invokevirtual 220, 3) := by decide +kernel
theorem dX9_put_76 : decode k_X9_put.2.1 76 = .ok (.pop, 1) := by decide +kernel
theorem dX9_put_77 : decode k_X9_put.2.1 77 = .ok (.aload_n 0, 1) := by decide +kernel
theorem dX9_put_78 : decode k_X9_put.2.1 78 = .ok (.getfield 12, 3) := by decide +kernel
theorem dX9_put_81 : decode k_X9_put.2.1 81 = .ok (.invokevirtual 135, 3) := by decide +kernel
theorem dX9_put_84 : decode k_X9_put.2.1 84 = .ok (.iload 4, 2) := by decide +kernel
theorem dX9_put_86 : decode k_X9_put.2.1 86 = .ok (.iload_n 2, 1) := by decide +kernel
theorem dX9_put_87 : decode k_X9_put.2.1 87 = .ok (.invokevirtual 224, 3) := by decide +kernel
theorem dX9_put_90 : decode k_X9_put.2.1 90 = .ok (.aload_n 0, 1) := by decide +kernel
theorem dX9_put_91 : decode k_X9_put.2.1 91 = .ok (.iconst 0, 1) := by decide +kernel
theorem dX9_put_92 : decode k_X9_put.2.1 92 = .ok (.putfield 71, 3) := by decide +kernel
theorem dX9_put_95 : decode k_X9_put.2.1 95 = .ok (.iload_n 3, 1) := by decide +kernel
theorem dX9_put_96 : decode k_X9_put.2.1 96 = .ok (.ireturn, 1) := by decide +kernel
theorem dX9_cut_0 : decode k_X9_cut.2.1 0 = .ok (.iload_n 2, 1) := by decide +kernel
theorem dX9_cut_1 : decode k_X9_cut.2.1 1 = .ok (.iconst 1, 1) := by decide +kernel
theorem dX9_cut_2 : decode k_X9_cut.2.1 2 = .ok (.if_icmp .ge 6, 3) := by decide +kernel
theorem dX9_cut_5 : decode k_X9_cut.2.1 5 = .ok (.bipush (-3), 2) := by decide +kernel
theorem dX9_cut_7 : decode k_X9_cut.2.1 7 = .ok (.ireturn, 1) := by decide +kernel
theorem dX9_cut_8 : decode k_X9_cut.2.1 8 = .ok (.aload_n 0, 1) := by decide +kernel
theorem dX9_cut_9 : decode k_X9_cut.2.1 9 = .ok (.iload_n 1, 1) := by decide +kernel
theorem dX9_cut_10 : decode k_X9_cut.2.1 10 = .ok (.iload_n 2, 1) := by decide +kernel
theorem dX9_cut_11 : decode k_X9_cut.2.1 11 = .ok (.invokevirtual 227, 3) := by decide +kernel
theorem dX9_cut_14 : decode k_X9_cut.2.1 14 = .ok (.ifCond .ne 6, 3) := by decide +kernel
theorem dX9_cut_17 : decode k_X9_cut.2.1 17 = .ok (.bipush (-5), 2) := by decide +kernel
theorem dX9_cut_19 : decode k_X9_cut.2.1 19 = .ok (.ireturn, 1) := by decide +kernel
theorem dX9_cut_20 : decode k_X9_cut.2.1 20 = .ok (.aload_n 0, 1) := by decide +kernel
theorem dX9_cut_21 : decode k_X9_cut.2.1 21 = .ok (.getfield 19, 3) := by decide +kernel
theorem dX9_cut_24 : decode k_X9_cut.2.1 24 = .ok (.aload_n 0, 1) := by decide +kernel
theorem dX9_cut_25 : decode k_X9_cut.2.1 25 = .ok (.getfield 12, 3) := by decide +kernel
theorem dX9_cut_28 : decode k_X9_cut.2.1 28 = .ok (.invokevirtual 128, 3) := by decide +kernel
theorem dX9_cut_31 : decode k_X9_cut.2.1 31 = .ok (.aload_n 0, 1) := by decide +kernel
theorem dX9_cut_32 : decode k_X9_cut.2.1 32 = .ok (.getfield 12, 3) := by decide +kernel
theorem dX9_cut_35 : decode k_X9_cut.2.1 35 = .ok (.iload_n 1, 1) := by decide +kernel
theorem dX9_cut_36 : decode k_X9_cut.2.1 36 = .ok (.aload_n 0, 1) := by decide +kernel
theorem dX9_cut_37 : decode k_X9_cut.2.1 37 = .ok (.getfield 60, 3) := by decide +kernel
theorem dX9_cut_40 : decode k_X9_cut.2.1 40 = .ok (.invokevirtual 220, 3) := by decide +kernel
theorem dX9_cut_43 : decode k_X9_cut.2.1 43 = .ok (.istore_n 3, 1) := by decide +kernel
theorem dX9_cut_44 : decode k_X9_cut.2.1 44 = .ok (.aload_n 0, 1) := by decide +kernel
theorem dX9_cut_45 : decode k_X9_cut.2.1 45 = .ok (.getfield 12, 3) := by decide +kernel
theorem dX9_cut_48 : decode k_X9_cut.2.1 48 = .ok (.iload_n 1, 1) := by decide +kernel
theorem dX9_cut_49 : decode k_X9_cut.2.1 49 = .ok (.iload_n 2, 1) := by decide +kernel
theorem dX9_cut_50 : decode k_X9_cut.2.1 50 = .ok (.iadd, 1) := by decide +kernel
theorem dX9_cut_51 : decode k_X9_cut.2.1 51 = .ok (.aload_n 0, 1) := by decide +kernel
theorem dX9_cut_52 : decode k_X9_cut.2.1 52 = .ok (.getfield 60, 3) := by decide +kernel
theorem dX9_cut_55 : decode k_X9_cut.2.1 55 = .ok (.invokevirtual 220, 3) := by decide +kernel
theorem dX9_cut_58 : decode k_X9_cut.2.1 58 = .ok (.istore 4, 2) := by decide +kernel
theorem dX9_cut_60 : decode k_X9_cut.2.1 60 = .ok (.aload_n 0, 1) := by decide +kernel
theorem dX9_cut_61 : decode k_X9_cut.2.1 61 = .ok (.getfield 12, 3) := by decide +kernel
theorem dX9_cut_64 : decode k_X9_cut.2.1 64 = .ok (.invokevirtual 135, 3) := by decide +kernel
theorem dX9_cut_67 : decode k_X9_cut.2.1 67 = .ok (.iload_n 3, 1) := by decide +kernel
theorem dX9_cut_68 : decode k_X9_cut.2.1 68 = .ok (.iload 4, 2) := by decide +kernel
theorem dX9_cut_70 : decode k_X9_cut.2.1 70 = .ok (.iload_n 3, 1) := by decide +kernel
theorem dX9_cut_71 : decode k_X9_cut.2.1 71 = .ok (.isub, 1) := by decide +kernel
theorem dX9_cut_72 : decode k_X9_cut.2.1 72 = .ok (.invokevirtual 231, 3) := by decide +kernel
theorem dX9_cut_75 : decode k_X9_cut.2.1 75 = .ok (.aload_n 0, 1) := by decide +kernel
theorem dX9_cut_76 : decode k_X9_cut.2.1 76 = .ok (.iconst 0, 1) := by decide +kernel
theorem dX9_cut_77 : decode k_X9_cut.2.1 77 = .ok (.putfield 71, 3) := by decide +kernel
theorem dX9_cut_80 : decode k_X9_cut.2.1 80 = .ok (.aload_n 0, 1) := by decide +kernel
theorem dX9_cut_81 : decode k_X9_cut.2.1 81 = .ok (.invokevirtual 165, 3) := by decide +kernel
theorem dX9_cut_84 : decode k_X9_cut.2.1 84 = .ok (.ireturn, 1) := by decide +kernel
theorem dX9_insert_0 : decode k_X9_insert.2.1 0 = .ok (.iload_n 2, 1) := by decide +kernel
theorem dX9_insert_1 : decode k_X9_insert.2.1 1 = .ok (.invokestatic 214, 3) := by decide +kernel
theorem dX9_insert_4 : decode k_X9_insert.2.1 4 = .ok (.ifCond .ne 6, 3) := by decide +kernel
theorem dX9_insert_7 : decode k_X9_insert.2.1 7 = .ok (.bipush (-2), 2) := by decide +kernel
theorem dX9_insert_9 : decode k_X9_insert.2.1 9 = .ok (.ireturn, 1) := by decide +kernel
theorem dX9_insert_10 : decode k_X9_insert.2.1 10 = .ok (.aload_n 0, 1) := by decide +kernel
theorem dX9_insert_11 : decode k_X9_insert.2.1 11 = .ok (.invokevirtual 144, 3) := by decide +kernel
theorem dX9_insert_14 : decode k_X9_insert.2.1 14 = .ok (.iload_n 1, 1) := by decide +kernel
theorem dX9_insert_15 : decode k_X9_insert.2.1 15 = .ok (.ifCond .lt 14, 3) := by decide +kernel
theorem dX9_insert_18 : decode k_X9_insert.2.1 18 = .ok (.iload_n 1, 1) := by decide +kernel
theorem dX9_insert_19 : decode k_X9_insert.2.1 19 = .ok (.aload_n 0, 1) := by decide +kernel
theorem dX9_insert_20 : decode k_X9_insert.2.1 20 = .ok (.getfield 67, 3) := by decide +kernel
theorem dX9_insert_23 : decode k_X9_insert.2.1 23 = .ok (.invokevirtual 207, 3) := by decide +kernel
theorem dX9_insert_26 : decode k_X9_insert.2.1 26 = .ok (.if_icmp .le 6, 3) := by decide +kernel
theorem dX9_insert_29 : decode k_X9_insert.2.1 29 = .ok (.bipush (-5), 2) := by decide +kernel
theorem dX9_insert_31 : decode k_X9_insert.2.1 31 = .ok (.ireturn, 1) := by decide +kernel
theorem dX9_insert_32 : decode k_X9_insert.2.1 32 = .ok (.aload_n 0, 1) := by decide +kernel
theorem dX9_insert_33 : decode k_X9_insert.2.1 33 = .ok (.getfield 67, 3) := by decide +kernel
theorem dX9_insert_36 : decode k_X9_insert.2.1 36 = .ok (.invokevirtual 207, 3) := by decide +kernel
theorem dX9_insert_39 : decode k_X9_insert.2.1 39 = .ok (.sipush 240, 3) := by decide +kernel
theorem dX9_insert_42 : decode k_X9_insert.2.1 42 = .ok (.if_icmp .ne 6, 3) := by decide +kernel
theorem dX9_insert_45 : decode k_X9_insert.2.1 45 = .ok (.bipush (-4), 2) := by decide +kernel
theorem dX9_insert_47 : decode k_X9_insert.2.1 47 = .ok (.ireturn, 1) := by decide +kernel
theorem dX9_insert_48 : decode k_X9_insert.2.1 48 = .ok (.aload_n 0, 1) := by decide +kernel
theorem dX9_insert_49 : decode k_X9_insert.2.1 49 = .ok (.getfield 19, 3) := by decide +kernel
theorem dX9_insert_52 : decode k_X9_insert.2.1 52 = .ok (.aload_n 0, 1) := by decide +kernel
theorem dX9_insert_53 : decode k_X9_insert.2.1 53 = .ok (.getfield 12, 3) := by decide +kernel
theorem dX9_insert_56 : decode k_X9_insert.2.1 56 = .ok (.invokevirtual 128, 3) := by decide +kernel
theorem dX9_insert_59 : decode k_X9_insert.2.1 59 = .ok (.aload_n 0, 1) := by decide +kernel
theorem dX9_insert_60 : decode k_X9_insert.2.1 60 = .ok (.getfield 12, 3) := by decide +kernel
theorem dX9_insert_63 : decode k_X9_insert.2.1 63 = .ok (.invokevirtual 135, 3) := by decide +kernel
theorem dX9_insert_66 : decode k_X9_insert.2.1 66 = .ok (.aload_n 0, 1) := by decide +kernel
theorem dX9_insert_67 : decode k_X9_insert.2.1 67 = .ok (.getfield 12, 3) := by decide +kernel
theorem dX9_insert_70 : decode k_X9_insert.2.1 70 = .ok (.iload_n 1, 1) := by decide +kernel
theorem dX9_insert_71 : decode k_X9_insert.2.1 71 = .ok (.aload_n 0, 1) := by decide +kernel
theorem dX9_insert_72 : decode k_X9_insert.2.1 72 = .ok (.getfield 60, 3) := by decide +kernel
theorem dX9_insert_75 : decode k_X9_insert.2.1 75 = .ok (.invokevirtual 220, 3) := by decide +kernel
theorem dX9_insert_78 : decode k_X9_insert.2.1 78 = .ok (.iload_n 2, 1) := by decide +kernel
theorem dX9_insert_79 : decode k_X9_insert.2.1 79 = .ok (.invokevirtual 234, 3) := by decide +kernel
theorem dX9_insert_82 : decode k_X9_insert.2.1 82 = .ok (.aload_n 0, 1) := by decide +kernel
theorem dX9_insert_83 : decode k_X9_insert.2.1 83 = .ok (.iconst 0, 1) := by decide +kernel
theorem dX9_insert_84 : decode k_X9_insert.2.1 84 = .ok (.putfield 71, 3) := by decide +kernel
theorem dX9_insert_87 : decode k_X9_insert.2.1 87 = .ok (.aload_n 0, 1) := by decide +kernel
theorem dX9_insert_88 : decode k_X9_insert.2.1 88 = .ok (.invokevirtual 165, 3) := by decide +kernel
theorem dX9_insert_91 : decode k_X9_insert.2.1 91 = .ok (.ireturn, 1) := by decide +kernel
theorem dX9_sign_0 : decode k_X9_sign.2.1 0 = .ok (.iload_n 1, 1) := by decide +kernel
theorem dX9_sign_1 : decode k_X9_sign.2.1 1 = .ok (.ifCond .ge 8, 3) := by decide +kernel
theorem dX9_sign_4 : decode k_X9_sign.2.1 4 = .ok (.bipush (-3), 2) := by decide +kernel
theorem dX9_sign_6 : decode k_X9_sign.2.1 6 = .ok (.goto 14, 3) := by decide +kernel
theorem dX9_sign_9 : decode k_X9_sign.2.1 9 = .ok (.aload_n 0, 1) := by decide +kernel
theorem dX9_sign_10 : decode k_X9_sign.2.1 10 = .ok (.getfield 12, 3) := by decide +kernel
theorem dX9_sign_13 : decode k_X9_sign.2.1 13 = .ok (.invokevirtual 135, 3) := by decide +kernel
theorem dX9_sign_16 : decode k_X9_sign.2.1 16 = .ok (.iload_n 1, 1) := by decide +kernel
theorem dX9_sign_17 : decode k_X9_sign.2.1 17 = .ok (.invokevirtual 237, 3) := by decide +kernel
theorem dX9_sign_20 : decode k_X9_sign.2.1 20 = .ok (.ireturn, 1) := by decide +kernel
theorem dX9_rule_0 : decode k_X9_rule.2.1 0 = .ok (.aload_n 0, 1) := by decide +kernel
theorem dX9_rule_1 : decode k_X9_rule.2.1 1 = .ok (.getfield 12, 3) := by decide +kernel
theorem dX9_rule_4 : decode k_X9_rule.2.1 4 = .ok (.iload_n 1, 1) := by decide +kernel
theorem dX9_rule_5 : decode k_X9_rule.2.1 5 = .ok (.invokevirtual 188, 3) := by decide +kernel
theorem dX9_rule_8 : decode k_X9_rule.2.1 8 = .ok (.ifCond .ne 6, 3) := by decide +kernel
theorem dX9_rule_11 : decode k_X9_rule.2.1 11 = .ok (.bipush (-2), 2) := by decide +kernel
theorem dX9_rule_13 : decode k_X9_rule.2.1 13 = .ok (.ireturn, 1) := by decide +kernel
theorem dX9_rule_14 : decode k_X9_rule.2.1 14 = .ok (.aload_n 0, 1) := by decide +kernel
theorem dX9_rule_15 : decode k_X9_rule.2.1 15 = .ok (.invokevirtual 144, 3) := by decide +kernel
theorem dX9_rule_18 : decode k_X9_rule.2.1 18 = .ok (.iload_n 2, 1) := by decide +kernel
theorem dX9_rule_19 : decode k_X9_rule.2.1 19 = .ok (.tableswitch 94 0 5 #[37, 49, 58, 67, 76, 88], 37) := by decide +kernel
theorem dX9_rule_56 : decode k_X9_rule.2.1 56 = .ok (.aload_n 0, 1) := by decide +kernel
theorem dX9_rule_57 : decode k_X9_rule.2.1 57 = .ok (.getfield 12, 3) := by decide +kernel
theorem dX9_rule_60 : decode k_X9_rule.2.1 60 = .ok (.iload_n 1, 1) := by decide +kernel
theorem dX9_rule_61 : decode k_X9_rule.2.1 61 = .ok (.invokevirtual 240, 3) := by decide +kernel
theorem dX9_rule_64 : decode k_X9_rule.2.1 64 = .ok (.invokevirtual 105, 3) := by decide +kernel
theorem dX9_rule_67 : decode k_X9_rule.2.1 67 = .ok (.ireturn, 1) := by decide +kernel
theorem dX9_rule_68 : decode k_X9_rule.2.1 68 = .ok (.aload_n 0, 1) := by decide +kernel
theorem dX9_rule_69 : decode k_X9_rule.2.1 69 = .ok (.getfield 60, 3) := by decide +kernel
theorem dX9_rule_72 : decode k_X9_rule.2.1 72 = .ok (.iload_n 1, 1) := by decide +kernel
theorem dX9_rule_73 : decode k_X9_rule.2.1 73 = .ok (.invokevirtual 244, 3) := by decide +kernel
theorem dX9_rule_76 : decode k_X9_rule.2.1 76 = .ok (.ireturn, 1) := by decide +kernel
theorem dX9_rule_77 : decode k_X9_rule.2.1 77 = .ok (.aload_n 0, 1) := by decide +kernel
theorem dX9_rule_78 : decode k_X9_rule.2.1 78 = .ok (.getfield 60, 3) := by decide +kernel
theorem dX9_rule_81 : decode k_X9_rule.2.1 81 = .ok (.iload_n 1, 1) := by decide +kernel
theorem dX9_rule_82 : decode k_X9_rule.2.1 82 = .ok (.invokevirtual 247, 3) := by decide +kernel
theorem dX9_rule_85 : decode k_X9_rule.2.1 85 = .ok (.ireturn, 1) := by decide +kernel
theorem dX9_rule_86 : decode k_X9_rule.2.1 86 = .ok (.aload_n 0, 1) := by decide +kernel
theorem dX9_rule_87 : decode k_X9_rule.2.1 87 = .ok (.getfield 12, 3) := by decide +kernel
theorem dX9_rule_90 : decode k_X9_rule.2.1 90 = .ok (.iload_n 1, 1) := by decide +kernel
theorem dX9_rule_91 : decode k_X9_rule.2.1 91 = .ok (.invokevirtual 250, 3) := by decide +kernel
theorem dX9_rule_94 : decode k_X9_rule.2.1 94 = .ok (.ireturn, 1) := by decide +kernel
theorem dX9_rule_95 : decode k_X9_rule.2.1 95 = .ok (.aload_n 0, 1) := by decide +kernel
theorem dX9_rule_96 : decode k_X9_rule.2.1 96 = .ok (.getfield 12, 3) := by decide +kernel
theorem dX9_rule_99 : decode k_X9_rule.2.1 99 = .ok (.invokevirtual 135, 3) := by decide +kernel
theorem dX9_rule_102 : decode k_X9_rule.2.1 102 = .ok (.iload_n 1, 1) := by decide +kernel
theorem dX9_rule_103 : decode k_X9_rule.2.1 103 = .ok (.invokevirtual 253, 3) := by decide +kernel
theorem dX9_rule_106 : decode k_X9_rule.2.1 106 = .ok (.ireturn, 1) := by decide +kernel
theorem dX9_rule_107 : decode k_X9_rule.2.1 107 = .ok (.aload_n 0, 1) := by decide +kernel
theorem dX9_rule_108 : decode k_X9_rule.2.1 108 = .ok (.iload_n 1, 1) := by decide +kernel
theorem dX9_rule_109 : decode k_X9_rule.2.1 109 = .ok (.invokevirtual 256, 3) := by decide +kernel
theorem dX9_rule_112 : decode k_X9_rule.2.1 112 = .ok (.ireturn, 1) := by decide +kernel
theorem dX9_rule_113 : decode k_X9_rule.2.1 113 = .ok (.aload_n 0, 1) := by decide +kernel
theorem dX9_rule_114 : decode k_X9_rule.2.1 114 = .ok (.iload_n 1, 1) := by decide +kernel
theorem dX9_rule_115 : decode k_X9_rule.2.1 115 = .ok (.iload_n 2, 1) := by decide +kernel
theorem dX9_rule_116 : decode k_X9_rule.2.1 116 = .ok (.invokevirtual 259, 3) := by decide +kernel
theorem dX9_rule_119 : decode k_X9_rule.2.1 119 = .ok (.ireturn, 1) := by decide +kernel
theorem dX9_word_0 : decode k_X9_word.2.1 0 = .ok (.aload_n 0, 1) := by decide +kernel
theorem dX9_word_1 : decode k_X9_word.2.1 1 = .ok (.getfield 12, 3) := by decide +kernel
theorem dX9_word_4 : decode k_X9_word.2.1 4 = .ok (.iload_n 1, 1) := by decide +kernel
theorem dX9_word_5 : decode k_X9_word.2.1 5 = .ok (.invokevirtual 188, 3) := by decide +kernel
theorem dX9_word_8 : decode k_X9_word.2.1 8 = .ok (.ifCond .ne 6, 3) := by decide +kernel
theorem dX9_word_11 : decode k_X9_word.2.1 11 = .ok (.bipush (-2), 2) := by decide +kernel
theorem dX9_word_13 : decode k_X9_word.2.1 13 = .ok (.ireturn, 1) := by decide +kernel
theorem dX9_word_14 : decode k_X9_word.2.1 14 = .ok (.iload_n 2, 1) := by decide +kernel
theorem dX9_word_15 : decode k_X9_word.2.1 15 = .ok (.ifCond .ge 6, 3) := by decide +kernel
theorem dX9_word_18 : decode k_X9_word.2.1 18 = .ok (.bipush (-3), 2) := by decide +kernel
theorem dX9_word_20 : decode k_X9_word.2.1 20 = .ok (.ireturn, 1) := by decide +kernel
theorem dX9_word_21 : decode k_X9_word.2.1 21 = .ok (.aload_n 0, 1) := by decide +kernel
theorem dX9_word_22 : decode k_X9_word.2.1 22 = .ok (.invokevirtual 144, 3) := by decide +kernel
theorem dX9_word_25 : decode k_X9_word.2.1 25 = .ok (.iload_n 2, 1) := by decide +kernel
theorem dX9_word_26 : decode k_X9_word.2.1 26 = .ok (.aload_n 0, 1) := by decide +kernel
theorem dX9_word_27 : decode k_X9_word.2.1 27 = .ok (.getfield 60, 3) := by decide +kernel
theorem dX9_word_30 : decode k_X9_word.2.1 30 = .ok (.iload_n 1, 1) := by decide +kernel
theorem dX9_word_31 : decode k_X9_word.2.1 31 = .ok (.invokevirtual 244, 3) := by decide +kernel
theorem dX9_word_34 : decode k_X9_word.2.1 34 = .ok (.if_icmp .lt 5, 3) := by decide +kernel
theorem dX9_word_37 : decode k_X9_word.2.1 37 = .ok (.iconst (-1), 1) := by decide +kernel
theorem dX9_word_38 : decode k_X9_word.2.1 38 = .ok (.ireturn, 1) := by decide +kernel
theorem dX9_word_39 : decode k_X9_word.2.1 39 = .ok (.aload_n 0, 1) := by decide +kernel
theorem dX9_word_40 : decode k_X9_word.2.1 40 = .ok (.getfield 60, 3) := by decide +kernel
theorem dX9_word_43 : decode k_X9_word.2.1 43 = .ok (.aload_n 0, 1) := by decide +kernel
theorem dX9_word_44 : decode k_X9_word.2.1 44 = .ok (.getfield 12, 3) := by decide +kernel
theorem dX9_word_47 : decode k_X9_word.2.1 47 = .ok (.iload_n 1, 1) := by decide +kernel
theorem dX9_word_48 : decode k_X9_word.2.1 48 = .ok (.iload_n 2, 1) := by decide +kernel
theorem dX9_word_49 : decode k_X9_word.2.1 49 = .ok (.bipush 60, 2) := by decide +kernel
theorem dX9_word_51 : decode k_X9_word.2.1 51 = .ok (.invokevirtual 262, 3) := by decide +kernel
theorem dX9_word_54 : decode k_X9_word.2.1 54 = .ok (.aload_n 0, 1) := by decide +kernel
theorem dX9_word_55 : decode k_X9_word.2.1 55 = .ok (.getfield 60, 3) := by decide +kernel
theorem dX9_word_58 : decode k_X9_word.2.1 58 = .ok (.invokevirtual 266, 3) := by decide +kernel
theorem dX9_word_61 : decode k_X9_word.2.1 61 = .ok (.ireturn, 1) := by decide +kernel
theorem dX9_pairs_0 : decode k_X9_pairs.2.1 0 = .ok (.aload_n 0, 1) := by decide +kernel
theorem dX9_pairs_1 : decode k_X9_pairs.2.1 1 = .ok (.getfield 12, 3) := by decide +kernel
theorem dX9_pairs_4 : decode k_X9_pairs.2.1 4 = .ok (.iload_n 1, 1) := by decide +kernel
theorem dX9_pairs_5 : decode k_X9_pairs.2.1 5 = .ok (.invokevirtual 188, 3) := by decide +kernel
theorem dX9_pairs_8 : decode k_X9_pairs.2.1 8 = .ok (.ifCond .eq 14, 3) := by decide +kernel
theorem dX9_pairs_11 : decode k_X9_pairs.2.1 11 = .ok (.aload_n 0, 1) := by decide +kernel
theorem dX9_pairs_12 : decode k_X9_pairs.2.1 12 = .ok (.getfield 12, 3) := by decide +kernel
theorem dX9_pairs_15 : decode k_X9_pairs.2.1 15 = .ok (.iload_n 2, 1) := by decide +kernel
theorem dX9_pairs_16 : decode k_X9_pairs.2.1 16 = .ok (.invokevirtual 188, 3) := by decide +kernel
theorem dX9_pairs_19 : decode k_X9_pairs.2.1 19 = .ok (.ifCond .ne 6, 3) := by decide +kernel
theorem dX9_pairs_22 : decode k_X9_pairs.2.1 22 = .ok (.bipush (-2), 2) := by decide +kernel
theorem dX9_pairs_24 : decode k_X9_pairs.2.1 24 = .ok (.ireturn, 1) := by decide +kernel
theorem dX9_pairs_25 : decode k_X9_pairs.2.1 25 = .ok (.aload_n 0, 1) := by decide +kernel
theorem dX9_pairs_26 : decode k_X9_pairs.2.1 26 = .ok (.getfield 84, 3) := by decide +kernel
theorem dX9_pairs_29 : decode k_X9_pairs.2.1 29 = .ok (.aload_n 0, 1) := by decide +kernel
theorem dX9_pairs_30 : decode k_X9_pairs.2.1 30 = .ok (.getfield 12, 3) := by decide +kernel
theorem dX9_pairs_33 : decode k_X9_pairs.2.1 33 = .ok (.invokevirtual 135, 3) := by decide +kernel
theorem dX9_pairs_36 : decode k_X9_pairs.2.1 36 = .ok (.invokevirtual 168, 3) := by decide +kernel
theorem dX9_pairs_39 : decode k_X9_pairs.2.1 39 = .ok (.aload_n 0, 1) := by decide +kernel
theorem dX9_pairs_40 : decode k_X9_pairs.2.1 40 = .ok (.getfield 84, 3) := by decide +kernel
theorem dX9_pairs_43 : decode k_X9_pairs.2.1 43 = .ok (.iload_n 1, 1) := by decide +kernel
theorem dX9_pairs_44 : decode k_X9_pairs.2.1 44 = .ok (.iload_n 2, 1) := by decide +kernel
theorem dX9_pairs_45 : decode k_X9_pairs.2.1 45 = .ok (.invokevirtual 191, 3) := by decide +kernel
theorem dX9_pairs_48 : decode k_X9_pairs.2.1 48 = .ok (.ireturn, 1) := by decide +kernel
theorem dX9_pick_0 : decode k_X9_pick.2.1 0 = .ok (.iload_n 1, 1) := by decide +kernel
theorem dX9_pick_1 : decode k_X9_pick.2.1 1 = .ok (.ifCond .ge 6, 3) := by decide +kernel
theorem dX9_pick_4 : decode k_X9_pick.2.1 4 = .ok (.bipush (-3), 2) := by decide +kernel
theorem dX9_pick_6 : decode k_X9_pick.2.1 6 = .ok (.ireturn, 1) := by decide +kernel
theorem dX9_pick_7 : decode k_X9_pick.2.1 7 = .ok (.aload_n 0, 1) := by decide +kernel
theorem dX9_pick_8 : decode k_X9_pick.2.1 8 = .ok (.getfield 84, 3) := by decide +kernel
theorem dX9_pick_11 : decode k_X9_pick.2.1 11 = .ok (.aload_n 0, 1) := by decide +kernel
theorem dX9_pick_12 : decode k_X9_pick.2.1 12 = .ok (.getfield 12, 3) := by decide +kernel
theorem dX9_pick_15 : decode k_X9_pick.2.1 15 = .ok (.invokevirtual 135, 3) := by decide +kernel
theorem dX9_pick_18 : decode k_X9_pick.2.1 18 = .ok (.invokevirtual 168, 3) := by decide +kernel
theorem dX9_pick_21 : decode k_X9_pick.2.1 21 = .ok (.aload_n 0, 1) := by decide +kernel
theorem dX9_pick_22 : decode k_X9_pick.2.1 22 = .ok (.getfield 84, 3) := by decide +kernel
theorem dX9_pick_25 : decode k_X9_pick.2.1 25 = .ok (.iload_n 1, 1) := by decide +kernel
theorem dX9_pick_26 : decode k_X9_pick.2.1 26 = .ok (.invokevirtual 172, 3) := by decide +kernel
theorem dX9_pick_29 : decode k_X9_pick.2.1 29 = .ok (.istore_n 2, 1) := by decide +kernel
theorem dX9_pick_30 : decode k_X9_pick.2.1 30 = .ok (.iload_n 2, 1) := by decide +kernel
theorem dX9_pick_31 : decode k_X9_pick.2.1 31 = .ok (.iconst (-1), 1) := by decide +kernel
theorem dX9_pick_32 : decode k_X9_pick.2.1 32 = .ok (.if_icmp .ne 7, 3) := by decide +kernel
theorem dX9_pick_35 : decode k_X9_pick.2.1 35 = .ok (.iconst (-1), 1) := by decide +kernel
theorem dX9_pick_36 : decode k_X9_pick.2.1 36 = .ok (.goto 15, 3) := by decide +kernel
theorem dX9_pick_39 : decode k_X9_pick.2.1 39 = .ok (.bipush 100, 2) := by decide +kernel
theorem dX9_pick_41 : decode k_X9_pick.2.1 41 = .ok (.iload_n 2, 1) := by decide +kernel
theorem dX9_pick_42 : decode k_X9_pick.2.1 42 = .ok (.invokestatic 175, 3) := by decide +kernel
theorem dX9_pick_45 : decode k_X9_pick.2.1 45 = .ok (.imul, 1) := by decide +kernel
theorem dX9_pick_46 : decode k_X9_pick.2.1 46 = .ok (.iload_n 2, 1) := by decide +kernel
theorem dX9_pick_47 : decode k_X9_pick.2.1 47 = .ok (.invokestatic 178, 3) := by decide +kernel
theorem dX9_pick_50 : decode k_X9_pick.2.1 50 = .ok (.iadd, 1) := by decide +kernel
theorem dX9_pick_51 : decode k_X9_pick.2.1 51 = .ok (.ireturn, 1) := by decide +kernel
theorem dX9_at_0 : decode k_X9_at.2.1 0 = .ok (.iload_n 1, 1) := by decide +kernel
theorem dX9_at_1 : decode k_X9_at.2.1 1 = .ok (.ifCond .ge 6, 3) := by decide +kernel
theorem dX9_at_4 : decode k_X9_at.2.1 4 = .ok (.bipush (-3), 2) := by decide +kernel
theorem dX9_at_6 : decode k_X9_at.2.1 6 = .ok (.ireturn, 1) := by decide +kernel
theorem dX9_at_7 : decode k_X9_at.2.1 7 = .ok (.aload_n 0, 1) := by decide +kernel
theorem dX9_at_8 : decode k_X9_at.2.1 8 = .ok (.invokevirtual 144, 3) := by decide +kernel
theorem dX9_at_11 : decode k_X9_at.2.1 11 = .ok (.aload_n 0, 1) := by decide +kernel
theorem dX9_at_12 : decode k_X9_at.2.1 12 = .ok (.getfield 67, 3) := by decide +kernel
theorem dX9_at_15 : decode k_X9_at.2.1 15 = .ok (.iload_n 1, 1) := by decide +kernel
theorem dX9_at_16 : decode k_X9_at.2.1 16 = .ok (.invokevirtual 208, 3) := by decide +kernel
theorem dX9_at_19 : decode k_X9_at.2.1 19 = .ok (.ireturn, 1) := by decide +kernel
theorem dX9_within_0 : decode k_X9_within.2.1 0 = .ok (.iload_n 2, 1) := by decide +kernel
theorem dX9_within_1 : decode k_X9_within.2.1 1 = .ok (.ifCond .lt 8, 3) := by decide +kernel
theorem dX9_within_4 : decode k_X9_within.2.1 4 = .ok (.iload_n 2, 1) := by decide +kernel
theorem dX9_within_5 : decode k_X9_within.2.1 5 = .ok (.iconst 2, 1) := by decide +kernel
theorem dX9_within_6 : decode k_X9_within.2.1 6 = .ok (.if_icmp .le 6, 3) := by decide +kernel
theorem dX9_within_9 : decode k_X9_within.2.1 9 = .ok (.bipush (-2), 2) := by decide +kernel
theorem dX9_within_11 : decode k_X9_within.2.1 11 = .ok (.ireturn, 1) := by decide +kernel
theorem dX9_within_12 : decode k_X9_within.2.1 12 = .ok (.iload_n 1, 1) := by decide +kernel
theorem dX9_within_13 : decode k_X9_within.2.1 13 = .ok (.ifCond .ge 6, 3) := by decide +kernel
theorem dX9_within_16 : decode k_X9_within.2.1 16 = .ok (.bipush (-3), 2) := by decide +kernel
theorem dX9_within_18 : decode k_X9_within.2.1 18 = .ok (.ireturn, 1) := by decide +kernel
theorem dX9_within_19 : decode k_X9_within.2.1 19 = .ok (.aload_n 0, 1) := by decide +kernel
theorem dX9_within_20 : decode k_X9_within.2.1 20 = .ok (.invokevirtual 144, 3) := by decide +kernel
theorem dX9_within_23 : decode k_X9_within.2.1 23 = .ok (.iload_n 2, 1) := by decide +kernel
theorem dX9_within_24 : decode k_X9_within.2.1 24 = .ok (.ifCond .ne 12, 3) := by decide +kernel
theorem dX9_within_27 : decode k_X9_within.2.1 27 = .ok (.aload_n 0, 1) := by decide +kernel
theorem dX9_within_28 : decode k_X9_within.2.1 28 = .ok (.getfield 67, 3) := by decide +kernel
theorem dX9_within_31 : decode k_X9_within.2.1 31 = .ok (.iload_n 1, 1) := by decide +kernel
theorem dX9_within_32 : decode k_X9_within.2.1 32 = .ok (.invokevirtual 269, 3) := by decide +kernel
theorem dX9_within_35 : decode k_X9_within.2.1 35 = .ok (.ireturn, 1) := by decide +kernel
theorem dX9_within_36 : decode k_X9_within.2.1 36 = .ok (.iload_n 2, 1) := by decide +kernel
theorem dX9_within_37 : decode k_X9_within.2.1 37 = .ok (.iconst 1, 1) := by decide +kernel
theorem dX9_within_38 : decode k_X9_within.2.1 38 = .ok (.if_icmp .ne 14, 3) := by decide +kernel
theorem dX9_within_41 : decode k_X9_within.2.1 41 = .ok (.aload_n 0, 1) := by decide +kernel
theorem dX9_within_42 : decode k_X9_within.2.1 42 = .ok (.getfield 67, 3) := by decide +kernel
theorem dX9_within_45 : decode k_X9_within.2.1 45 = .ok (.iload_n 1, 1) := by decide +kernel
theorem dX9_within_46 : decode k_X9_within.2.1 46 = .ok (.invokevirtual 272, 3) := by decide +kernel
theorem dX9_within_49 : decode k_X9_within.2.1 49 = .ok (.goto 11, 3) := by decide +kernel
theorem dX9_within_52 : decode k_X9_within.2.1 52 = .ok (.aload_n 0, 1) := by decide +kernel
theorem dX9_within_53 : decode k_X9_within.2.1 53 = .ok (.getfield 67, 3) := by decide +kernel
theorem dX9_within_56 : decode k_X9_within.2.1 56 = .ok (.iload_n 1, 1) := by decide +kernel
theorem dX9_within_57 : decode k_X9_within.2.1 57 = .ok (.invokevirtual 275, 3) := by decide +kernel
theorem dX9_within_60 : decode k_X9_within.2.1 60 = .ok (.ireturn, 1) := by decide +kernel
theorem dX9_way_0 : decode k_X9_way.2.1 0 = .ok (.iload_n 1, 1) := by decide +kernel
theorem dX9_way_1 : decode k_X9_way.2.1 1 = .ok (.ifCond .lt 7, 3) := by decide +kernel
theorem dX9_way_4 : decode k_X9_way.2.1 4 = .ok (.iload_n 2, 1) := by decide +kernel
theorem dX9_way_5 : decode k_X9_way.2.1 5 = .ok (.ifCond .ge 6, 3) := by decide +kernel
theorem dX9_way_8 : decode k_X9_way.2.1 8 = .ok (.bipush (-3), 2) := by decide +kernel
theorem dX9_way_10 : decode k_X9_way.2.1 10 = .ok (.ireturn, 1) := by decide +kernel
theorem dX9_way_11 : decode k_X9_way.2.1 11 = .ok (.aload_n 0, 1) := by decide +kernel
theorem dX9_way_12 : decode k_X9_way.2.1 12 = .ok (.invokevirtual 144, 3) := by decide +kernel
theorem dX9_way_15 : decode k_X9_way.2.1 15 = .ok (.aload_n 0, 1) := by decide +kernel
theorem dX9_way_16 : decode k_X9_way.2.1 16 = .ok (.getfield 67, 3) := by decide +kernel
theorem dX9_way_19 : decode k_X9_way.2.1 19 = .ok (.iload_n 1, 1) := by decide +kernel
theorem dX9_way_20 : decode k_X9_way.2.1 20 = .ok (.invokevirtual 217, 3) := by decide +kernel
theorem dX9_way_23 : decode k_X9_way.2.1 23 = .ok (.ifCond .eq 9, 3) := by decide +kernel
theorem dX9_way_26 : decode k_X9_way.2.1 26 = .ok (.iload_n 2, 1) := by decide +kernel
theorem dX9_way_27 : decode k_X9_way.2.1 27 = .ok (.bipush 60, 2) := by decide +kernel
theorem dX9_way_29 : decode k_X9_way.2.1 29 = .ok (.if_icmp .le 5, 3) := by decide +kernel
theorem dX9_way_32 : decode k_X9_way.2.1 32 = .ok (.iconst (-1), 1) := by decide +kernel
theorem dX9_way_33 : decode k_X9_way.2.1 33 = .ok (.ireturn, 1) := by decide +kernel
theorem dX9_way_34 : decode k_X9_way.2.1 34 = .ok (.aload_n 0, 1) := by decide +kernel
theorem dX9_way_35 : decode k_X9_way.2.1 35 = .ok (.getfield 12, 3) := by decide +kernel
theorem dX9_way_38 : decode k_X9_way.2.1 38 = .ok (.invokevirtual 135, 3) := by decide +kernel
theorem dX9_way_41 : decode k_X9_way.2.1 41 = .ok (.aload_n 0, 1) := by decide +kernel
theorem dX9_way_42 : decode k_X9_way.2.1 42 = .ok (.getfield 67, 3) := by decide +kernel
theorem dX9_way_45 : decode k_X9_way.2.1 45 = .ok (.iload_n 1, 1) := by decide +kernel
theorem dX9_way_46 : decode k_X9_way.2.1 46 = .ok (.invokevirtual 269, 3) := by decide +kernel
theorem dX9_way_49 : decode k_X9_way.2.1 49 = .ok (.invokevirtual 237, 3) := by decide +kernel
theorem dX9_way_52 : decode k_X9_way.2.1 52 = .ok (.istore_n 3, 1) := by decide +kernel
theorem dX9_way_53 : decode k_X9_way.2.1 53 = .ok (.aload_n 0, 1) := by decide +kernel
theorem dX9_way_54 : decode k_X9_way.2.1 54 = .ok (.getfield 60, 3) := by decide +kernel
theorem dX9_way_57 : decode k_X9_way.2.1 57 = .ok (.aload_n 0, 1) := by decide +kernel
theorem dX9_way_58 : decode k_X9_way.2.1 58 = .ok (.getfield 12, 3) := by decide +kernel
theorem dX9_way_61 : decode k_X9_way.2.1 61 = .ok (.iload_n 3, 1) := by decide +kernel
theorem dX9_way_62 : decode k_X9_way.2.1 62 = .ok (.iload_n 1, 1) := by decide +kernel
theorem dX9_way_63 : decode k_X9_way.2.1 63 = .ok (.aload_n 0, 1) := by decide +kernel
theorem dX9_way_64 : decode k_X9_way.2.1 64 = .ok (.getfield 67, 3) := by decide +kernel
theorem dX9_way_67 : decode k_X9_way.2.1 67 = .ok (.iload_n 1, 1) := by decide +kernel
theorem dX9_way_68 : decode k_X9_way.2.1 68 = .ok (.invokevirtual 272, 3) := by decide +kernel
theorem dX9_way_71 : decode k_X9_way.2.1 71 = .ok (.isub, 1) := by decide +kernel
theorem dX9_way_72 : decode k_X9_way.2.1 72 = .ok (.iload_n 2, 1) := by decide +kernel
theorem dX9_way_73 : decode k_X9_way.2.1 73 = .ok (.invokevirtual 262, 3) := by decide +kernel
theorem dX9_way_76 : decode k_X9_way.2.1 76 = .ok (.aload_n 0, 1) := by decide +kernel
theorem dX9_way_77 : decode k_X9_way.2.1 77 = .ok (.getfield 60, 3) := by decide +kernel
theorem dX9_way_80 : decode k_X9_way.2.1 80 = .ok (.invokevirtual 278, 3) := by decide +kernel
theorem dX9_way_83 : decode k_X9_way.2.1 83 = .ok (.iload_n 2, 1) := by decide +kernel
theorem dX9_way_84 : decode k_X9_way.2.1 84 = .ok (.if_icmp .ge 7, 3) := by decide +kernel
theorem dX9_way_87 : decode k_X9_way.2.1 87 = .ok (.iconst (-1), 1) := by decide +kernel
theorem dX9_way_88 : decode k_X9_way.2.1 88 = .ok (.goto 10, 3) := by decide +kernel
theorem dX9_way_91 : decode k_X9_way.2.1 91 = .ok (.aload_n 0, 1) := by decide +kernel
theorem dX9_way_92 : decode k_X9_way.2.1 92 = .ok (.getfield 60, 3) := by decide +kernel
theorem dX9_way_95 : decode k_X9_way.2.1 95 = .ok (.invokevirtual 266, 3) := by decide +kernel
theorem dX9_way_98 : decode k_X9_way.2.1 98 = .ok (.ireturn, 1) := by decide +kernel
theorem dX9_ahead_0 : decode k_X9_ahead.2.1 0 = .ok (.iload_n 1, 1) := by decide +kernel
theorem dX9_ahead_1 : decode k_X9_ahead.2.1 1 = .ok (.invokestatic 214, 3) := by decide +kernel
theorem dX9_ahead_4 : decode k_X9_ahead.2.1 4 = .ok (.ifCond .ne 6, 3) := by decide +kernel
theorem dX9_ahead_7 : decode k_X9_ahead.2.1 7 = .ok (.bipush (-2), 2) := by decide +kernel
theorem dX9_ahead_9 : decode k_X9_ahead.2.1 9 = .ok (.ireturn, 1) := by decide +kernel
theorem dX9_ahead_10 : decode k_X9_ahead.2.1 10 = .ok (.aload_n 0, 1) := by decide +kernel
theorem dX9_ahead_11 : decode k_X9_ahead.2.1 11 = .ok (.invokevirtual 144, 3) := by decide +kernel
theorem dX9_ahead_14 : decode k_X9_ahead.2.1 14 = .ok (.iload_n 2, 1) := by decide +kernel
theorem dX9_ahead_15 : decode k_X9_ahead.2.1 15 = .ok (.ifCond .lt 14, 3) := by decide +kernel
theorem dX9_ahead_18 : decode k_X9_ahead.2.1 18 = .ok (.iload_n 2, 1) := by decide +kernel
theorem dX9_ahead_19 : decode k_X9_ahead.2.1 19 = .ok (.aload_n 0, 1) := by decide +kernel
theorem dX9_ahead_20 : decode k_X9_ahead.2.1 20 = .ok (.getfield 67, 3) := by decide +kernel
theorem dX9_ahead_23 : decode k_X9_ahead.2.1 23 = .ok (.invokevirtual 207, 3) := by decide +kernel
theorem dX9_ahead_26 : decode k_X9_ahead.2.1 26 = .ok (.if_icmp .le 6, 3) := by decide +kernel
theorem dX9_ahead_29 : decode k_X9_ahead.2.1 29 = .ok (.bipush (-5), 2) := by decide +kernel
theorem dX9_ahead_31 : decode k_X9_ahead.2.1 31 = .ok (.ireturn, 1) := by decide +kernel
theorem dX9_ahead_32 : decode k_X9_ahead.2.1 32 = .ok (.iconst 0, 1) := by decide +kernel
theorem dX9_ahead_33 : decode k_X9_ahead.2.1 33 = .ok (.istore_n 3, 1) := by decide +kernel
theorem dX9_ahead_34 : decode k_X9_ahead.2.1 34 = .ok (.iconst 0, 1) := by decide +kernel
theorem dX9_ahead_35 : decode k_X9_ahead.2.1 35 = .ok (.istore 4, 2) := by decide +kernel
theorem dX9_ahead_37 : decode k_X9_ahead.2.1 37 = .ok (.iload 4, 2) := by decide +kernel
theorem dX9_ahead_39 : decode k_X9_ahead.2.1 39 = .ok (.iload_n 2, 1) := by decide +kernel
theorem dX9_ahead_40 : decode k_X9_ahead.2.1 40 = .ok (.if_icmp .ge 25, 3) := by decide +kernel
theorem dX9_ahead_43 : decode k_X9_ahead.2.1 43 = .ok (.aload_n 0, 1) := by decide +kernel
theorem dX9_ahead_44 : decode k_X9_ahead.2.1 44 = .ok (.getfield 67, 3) := by decide +kernel
theorem dX9_ahead_47 : decode k_X9_ahead.2.1 47 = .ok (.iload 4, 2) := by decide +kernel
theorem dX9_ahead_49 : decode k_X9_ahead.2.1 49 = .ok (.invokevirtual 208, 3) := by decide +kernel
theorem dX9_ahead_52 : decode k_X9_ahead.2.1 52 = .ok (.iload_n 1, 1) := by decide +kernel
theorem dX9_ahead_53 : decode k_X9_ahead.2.1 53 = .ok (.if_icmp .ne 6, 3) := by decide +kernel
theorem dX9_ahead_56 : decode k_X9_ahead.2.1 56 = .ok (.iinc 3 1, 3) := by decide +kernel
theorem dX9_ahead_59 : decode k_X9_ahead.2.1 59 = .ok (.iinc 4 1, 3) := by decide +kernel
theorem dX9_ahead_62 : decode k_X9_ahead.2.1 62 = .ok (.goto (-25), 3) := by decide +kernel
theorem dX9_ahead_65 : decode k_X9_ahead.2.1 65 = .ok (.iload_n 3, 1) := by decide +kernel
theorem dX9_ahead_66 : decode k_X9_ahead.2.1 66 = .ok (.ireturn, 1) := by decide +kernel
theorem dX9_where_0 : decode k_X9_where.2.1 0 = .ok (.iload_n 1, 1) := by decide +kernel
theorem dX9_where_1 : decode k_X9_where.2.1 1 = .ok (.invokestatic 214, 3) := by decide +kernel
theorem dX9_where_4 : decode k_X9_where.2.1 4 = .ok (.ifCond .ne 6, 3) := by decide +kernel
theorem dX9_where_7 : decode k_X9_where.2.1 7 = .ok (.bipush (-2), 2) := by decide +kernel
theorem dX9_where_9 : decode k_X9_where.2.1 9 = .ok (.ireturn, 1) := by decide +kernel
theorem dX9_where_10 : decode k_X9_where.2.1 10 = .ok (.iload_n 2, 1) := by decide +kernel
theorem dX9_where_11 : decode k_X9_where.2.1 11 = .ok (.ifCond .ge 6, 3) := by decide +kernel
theorem dX9_where_14 : decode k_X9_where.2.1 14 = .ok (.bipush (-3), 2) := by decide +kernel
theorem dX9_where_16 : decode k_X9_where.2.1 16 = .ok (.ireturn, 1) := by decide +kernel
theorem dX9_where_17 : decode k_X9_where.2.1 17 = .ok (.aload_n 0, 1) := by decide +kernel
theorem dX9_where_18 : decode k_X9_where.2.1 18 = .ok (.invokevirtual 144, 3) := by decide +kernel
theorem dX9_where_21 : decode k_X9_where.2.1 21 = .ok (.iconst 0, 1) := by decide +kernel
theorem dX9_where_22 : decode k_X9_where.2.1 22 = .ok (.istore_n 3, 1) := by decide +kernel
theorem dX9_where_23 : decode k_X9_where.2.1 23 = .ok (.iconst 0, 1) := by decide +kernel
theorem dX9_where_24 : decode k_X9_where.2.1 24 = .ok (.istore 4, 2) := by decide +kernel
theorem dX9_where_26 : decode k_X9_where.2.1 26 = .ok (.iload 4, 2) := by decide +kernel
theorem dX9_where_28 : decode k_X9_where.2.1 28 = .ok (.aload_n 0, 1) := by decide +kernel
theorem dX9_where_29 : decode k_X9_where.2.1 29 = .ok (.getfield 67, 3) := by decide +kernel
theorem dX9_where_32 : decode k_X9_where.2.1 32 = .ok (.invokevirtual 207, 3) := by decide +kernel
theorem dX9_where_35 : decode k_X9_where.2.1 35 = .ok (.if_icmp .ge 33, 3) := by decide +kernel
theorem dX9_where_38 : decode k_X9_where.2.1 38 = .ok (.aload_n 0, 1) := by decide +kernel
theorem dX9_where_39 : decode k_X9_where.2.1 39 = .ok (.getfield 67, 3) := by decide +kernel
theorem dX9_where_42 : decode k_X9_where.2.1 42 = .ok (.iload 4, 2) := by decide +kernel
theorem dX9_where_44 : decode k_X9_where.2.1 44 = .ok (.invokevirtual 208, 3) := by decide +kernel
theorem dX9_where_47 : decode k_X9_where.2.1 47 = .ok (.iload_n 1, 1) := by decide +kernel
theorem dX9_where_48 : decode k_X9_where.2.1 48 = .ok (.if_icmp .ne 14, 3) := by decide +kernel
theorem dX9_where_51 : decode k_X9_where.2.1 51 = .ok (.iload_n 3, 1) := by decide +kernel
theorem dX9_where_52 : decode k_X9_where.2.1 52 = .ok (.iload_n 2, 1) := by decide +kernel
theorem dX9_where_53 : decode k_X9_where.2.1 53 = .ok (.if_icmp .ne 6, 3) := by decide +kernel
theorem dX9_where_56 : decode k_X9_where.2.1 56 = .ok (.iload 4, 2) := by decide +kernel
theorem dX9_where_58 : decode k_X9_where.2.1 58 = .ok (.ireturn, 1) := by decide +kernel
theorem dX9_where_59 : decode k_X9_where.2.1 59 = .ok (.iinc 3 1, 3) := by decide +kernel
theorem dX9_where_62 : decode k_X9_where.2.1 62 = .ok (.iinc 4 1, 3) := by decide +kernel
theorem dX9_where_65 : decode k_X9_where.2.1 65 = .ok (.goto (-39), 3) := by decide +kernel
theorem dX9_where_68 : decode k_X9_where.2.1 68 = .ok (.iconst (-1), 1) := by decide +kernel
theorem dX9_where_69 : decode k_X9_where.2.1 69 = .ok (.ireturn, 1) := by decide +kernel
theorem dX9_common_0 : decode k_X9_common.2.1 0 = .ok (.aload_n 0, 1) := by decide +kernel
theorem dX9_common_1 : decode k_X9_common.2.1 1 = .ok (.invokevirtual 144, 3) := by decide +kernel
theorem dX9_common_4 : decode k_X9_common.2.1 4 = .ok (.aload_n 0, 1) := by decide +kernel
theorem dX9_common_5 : decode k_X9_common.2.1 5 = .ok (.getfield 67, 3) := by decide +kernel
theorem dX9_common_8 : decode k_X9_common.2.1 8 = .ok (.iload_n 1, 1) := by decide +kernel
theorem dX9_common_9 : decode k_X9_common.2.1 9 = .ok (.invokevirtual 217, 3) := by decide +kernel
theorem dX9_common_12 : decode k_X9_common.2.1 12 = .ok (.ifCond .eq 14, 3) := by decide +kernel
theorem dX9_common_15 : decode k_X9_common.2.1 15 = .ok (.aload_n 0, 1) := by decide +kernel
theorem dX9_common_16 : decode k_X9_common.2.1 16 = .ok (.getfield 67, 3) := by decide +kernel
theorem dX9_common_19 : decode k_X9_common.2.1 19 = .ok (.iload_n 2, 1) := by decide +kernel
theorem dX9_common_20 : decode k_X9_common.2.1 20 = .ok (.invokevirtual 217, 3) := by decide +kernel
theorem dX9_common_23 : decode k_X9_common.2.1 23 = .ok (.ifCond .ne 6, 3) := by decide +kernel
theorem dX9_common_26 : decode k_X9_common.2.1 26 = .ok (.bipush (-5), 2) := by decide +kernel
theorem dX9_common_28 : decode k_X9_common.2.1 28 = .ok (.ireturn, 1) := by decide +kernel
theorem dX9_common_29 : decode k_X9_common.2.1 29 = .ok (.aload_n 0, 1) := by decide +kernel
theorem dX9_common_30 : decode k_X9_common.2.1 30 = .ok (.getfield 67, 3) := by decide +kernel
theorem dX9_common_33 : decode k_X9_common.2.1 33 = .ok (.iload_n 1, 1) := by decide +kernel
theorem dX9_common_34 : decode k_X9_common.2.1 34 = .ok (.iload_n 2, 1) := by decide +kernel
theorem dX9_common_35 : decode k_X9_common.2.1 35 = .ok (.invokevirtual 281, 3) := by decide +kernel
theorem dX9_common_38 : decode k_X9_common.2.1 38 = .ok (.ireturn, 1) := by decide +kernel
theorem dX9_compare_0 : decode k_X9_compare.2.1 0 = .ok (.aload_n 0, 1) := by decide +kernel
theorem dX9_compare_1 : decode k_X9_compare.2.1 1 = .ok (.invokevirtual 144, 3) := by decide +kernel
theorem dX9_compare_4 : decode k_X9_compare.2.1 4 = .ok (.aload_n 0, 1) := by decide +kernel
theorem dX9_compare_5 : decode k_X9_compare.2.1 5 = .ok (.getfield 67, 3) := by decide +kernel
theorem dX9_compare_8 : decode k_X9_compare.2.1 8 = .ok (.iload_n 1, 1) := by decide +kernel
theorem dX9_compare_9 : decode k_X9_compare.2.1 9 = .ok (.invokevirtual 217, 3) := by decide +kernel
theorem dX9_compare_12 : decode k_X9_compare.2.1 12 = .ok (.ifCond .eq 14, 3) := by decide +kernel
theorem dX9_compare_15 : decode k_X9_compare.2.1 15 = .ok (.aload_n 0, 1) := by decide +kernel
theorem dX9_compare_16 : decode k_X9_compare.2.1 16 = .ok (.getfield 67, 3) := by decide +kernel
theorem dX9_compare_19 : decode k_X9_compare.2.1 19 = .ok (.iload_n 2, 1) := by decide +kernel
theorem dX9_compare_20 : decode k_X9_compare.2.1 20 = .ok (.invokevirtual 217, 3) := by decide +kernel
theorem dX9_compare_23 : decode k_X9_compare.2.1 23 = .ok (.ifCond .ne 6, 3) := by decide +kernel
theorem dX9_compare_26 : decode k_X9_compare.2.1 26 = .ok (.bipush (-5), 2) := by decide +kernel
theorem dX9_compare_28 : decode k_X9_compare.2.1 28 = .ok (.ireturn, 1) := by decide +kernel
theorem dX9_compare_29 : decode k_X9_compare.2.1 29 = .ok (.iload_n 1, 1) := by decide +kernel
theorem dX9_compare_30 : decode k_X9_compare.2.1 30 = .ok (.iload_n 2, 1) := by decide +kernel
theorem dX9_compare_31 : decode k_X9_compare.2.1 31 = .ok (.if_icmp .ne 5, 3) := by decide +kernel
theorem dX9_compare_34 : decode k_X9_compare.2.1 34 = .ok (.iconst 0, 1) := by decide +kernel
theorem dX9_compare_35 : decode k_X9_compare.2.1 35 = .ok (.ireturn, 1) := by decide +kernel
theorem dX9_compare_36 : decode k_X9_compare.2.1 36 = .ok (.aload_n 0, 1) := by decide +kernel
theorem dX9_compare_37 : decode k_X9_compare.2.1 37 = .ok (.getfield 67, 3) := by decide +kernel
theorem dX9_compare_40 : decode k_X9_compare.2.1 40 = .ok (.iload_n 1, 1) := by decide +kernel
theorem dX9_compare_41 : decode k_X9_compare.2.1 41 = .ok (.iload_n 2, 1) := by decide +kernel
theorem dX9_compare_42 : decode k_X9_compare.2.1 42 = .ok (.invokevirtual 281, 3) := by decide +kernel
theorem dX9_compare_45 : decode k_X9_compare.2.1 45 = .ok (.istore_n 3, 1) := by decide +kernel
theorem dX9_compare_46 : decode k_X9_compare.2.1 46 = .ok (.aload_n 0, 1) := by decide +kernel
theorem dX9_compare_47 : decode k_X9_compare.2.1 47 = .ok (.getfield 67, 3) := by decide +kernel
theorem dX9_compare_50 : decode k_X9_compare.2.1 50 = .ok (.iload_n 1, 1) := by decide +kernel
theorem dX9_compare_51 : decode k_X9_compare.2.1 51 = .ok (.iload_n 3, 1) := by decide +kernel
theorem dX9_compare_52 : decode k_X9_compare.2.1 52 = .ok (.iadd, 1) := by decide +kernel
theorem dX9_compare_53 : decode k_X9_compare.2.1 53 = .ok (.invokevirtual 208, 3) := by decide +kernel
theorem dX9_compare_56 : decode k_X9_compare.2.1 56 = .ok (.aload_n 0, 1) := by decide +kernel
theorem dX9_compare_57 : decode k_X9_compare.2.1 57 = .ok (.getfield 67, 3) := by decide +kernel
theorem dX9_compare_60 : decode k_X9_compare.2.1 60 = .ok (.iload_n 2, 1) := by decide +kernel
theorem dX9_compare_61 : decode k_X9_compare.2.1 61 = .ok (.iload_n 3, 1) := by decide +kernel
theorem dX9_compare_62 : decode k_X9_compare.2.1 62 = .ok (.iadd, 1) := by decide +kernel
theorem dX9_compare_63 : decode k_X9_compare.2.1 63 = .ok (.invokevirtual 208, 3) := by decide +kernel
theorem dX9_compare_66 : decode k_X9_compare.2.1 66 = .ok (.if_icmp .ge 7, 3) := by decide +kernel
theorem dX9_compare_69 : decode k_X9_compare.2.1 69 = .ok (.iconst 1, 1) := by decide +kernel
theorem dX9_compare_70 : decode k_X9_compare.2.1 70 = .ok (.goto 4, 3) := by decide +kernel
theorem dX9_compare_73 : decode k_X9_compare.2.1 73 = .ok (.iconst 2, 1) := by decide +kernel
theorem dX9_compare_74 : decode k_X9_compare.2.1 74 = .ok (.ireturn, 1) := by decide +kernel
theorem dX9_print_0 : decode k_X9_print.2.1 0 = .ok (.iload_n 2, 1) := by decide +kernel
theorem dX9_print_1 : decode k_X9_print.2.1 1 = .ok (.ifCond .ge 6, 3) := by decide +kernel
theorem dX9_print_4 : decode k_X9_print.2.1 4 = .ok (.bipush (-3), 2) := by decide +kernel
theorem dX9_print_6 : decode k_X9_print.2.1 6 = .ok (.ireturn, 1) := by decide +kernel
theorem dX9_print_7 : decode k_X9_print.2.1 7 = .ok (.aload_n 0, 1) := by decide +kernel
theorem dX9_print_8 : decode k_X9_print.2.1 8 = .ok (.iload_n 1, 1) := by decide +kernel
theorem dX9_print_9 : decode k_X9_print.2.1 9 = .ok (.iload_n 2, 1) := by decide +kernel
theorem dX9_print_10 : decode k_X9_print.2.1 10 = .ok (.invokevirtual 227, 3) := by decide +kernel
theorem dX9_print_13 : decode k_X9_print.2.1 13 = .ok (.ifCond .ne 6, 3) := by decide +kernel
theorem dX9_print_16 : decode k_X9_print.2.1 16 = .ok (.bipush (-5), 2) := by decide +kernel
theorem dX9_print_18 : decode k_X9_print.2.1 18 = .ok (.ireturn, 1) := by decide +kernel
theorem dX9_print_19 : decode k_X9_print.2.1 19 = .ok (.iconst 0, 1) := by decide +kernel
theorem dX9_print_20 : decode k_X9_print.2.1 20 = .ok (.istore_n 3, 1) := by decide +kernel
theorem dX9_print_21 : decode k_X9_print.2.1 21 = .ok (.iload_n 1, 1) := by decide +kernel
theorem dX9_print_22 : decode k_X9_print.2.1 22 = .ok (.istore 4, 2) := by decide +kernel
theorem dX9_print_24 : decode k_X9_print.2.1 24 = .ok (.iload 4, 2) := by decide +kernel
theorem dX9_print_26 : decode k_X9_print.2.1 26 = .ok (.iload_n 1, 1) := by decide +kernel
theorem dX9_print_27 : decode k_X9_print.2.1 27 = .ok (.iload_n 2, 1) := by decide +kernel
theorem dX9_print_28 : decode k_X9_print.2.1 28 = .ok (.iadd, 1) := by decide +kernel
theorem dX9_print_29 : decode k_X9_print.2.1 29 = .ok (.if_icmp .ge 30, 3) := by decide +kernel
theorem dX9_print_32 : decode k_X9_print.2.1 32 = .ok (.bipush 31, 2) := by decide +kernel
theorem dX9_print_34 : decode k_X9_print.2.1 34 = .ok (.iload_n 3, 1) := by decide +kernel
theorem dX9_print_35 : decode k_X9_print.2.1 35 = .ok (.imul, 1) := by decide +kernel
theorem dX9_print_36 : decode k_X9_print.2.1 36 = .ok (.aload_n 0, 1) := by decide +kernel
theorem dX9_print_37 : decode k_X9_print.2.1 37 = .ok (.getfield 67, 3) := by decide +kernel
theorem dX9_print_40 : decode k_X9_print.2.1 40 = .ok (.iload 4, 2) := by decide +kernel
theorem dX9_print_42 : decode k_X9_print.2.1 42 = .ok (.invokevirtual 208, 3) := by decide +kernel
theorem dX9_print_45 : decode k_X9_print.2.1 45 = .ok (.iadd, 1) := by decide +kernel
theorem dX9_print_46 : decode k_X9_print.2.1 46 = .ok (.iconst 1, 1) := by decide +kernel
theorem dX9_print_47 : decode k_X9_print.2.1 47 = .ok (.iadd, 1) := by decide +kernel
theorem dX9_print_48 : decode k_X9_print.2.1 48 = .ok (.ldc_w 284, 3) := by decide +kernel
theorem dX9_print_51 : decode k_X9_print.2.1 51 = .ok (.irem, 1) := by decide +kernel
theorem dX9_print_52 : decode k_X9_print.2.1 52 = .ok (.istore_n 3, 1) := by decide +kernel
theorem dX9_print_53 : decode k_X9_print.2.1 53 = .ok (.iinc 4 1, 3) := by decide +kernel
theorem dX9_print_56 : decode k_X9_print.2.1 56 = .ok (.goto (-32), 3) := by decide +kernel
theorem dX9_print_59 : decode k_X9_print.2.1 59 = .ok (.iload_n 3, 1) := by decide +kernel
theorem dX9_print_60 : decode k_X9_print.2.1 60 = .ok (.ireturn, 1) := by decide +kernel
theorem dX9_repeat_0 : decode k_X9_repeat.2.1 0 = .ok (.aload_n 0, 1) := by decide +kernel
theorem dX9_repeat_1 : decode k_X9_repeat.2.1 1 = .ok (.invokevirtual 144, 3) := by decide +kernel
theorem dX9_repeat_4 : decode k_X9_repeat.2.1 4 = .ok (.aload_n 0, 1) := by decide +kernel
theorem dX9_repeat_5 : decode k_X9_repeat.2.1 5 = .ok (.getfield 67, 3) := by decide +kernel
theorem dX9_repeat_8 : decode k_X9_repeat.2.1 8 = .ok (.invokevirtual 285, 3) := by decide +kernel
theorem dX9_repeat_11 : decode k_X9_repeat.2.1 11 = .ok (.aload_n 0, 1) := by decide +kernel
theorem dX9_repeat_12 : decode k_X9_repeat.2.1 12 = .ok (.getfield 67, 3) := by decide +kernel
theorem dX9_repeat_15 : decode k_X9_repeat.2.1 15 = .ok (.invokevirtual 288, 3) := by decide +kernel
theorem dX9_repeat_18 : decode k_X9_repeat.2.1 18 = .ok (.ireturn, 1) := by decide +kernel
theorem dX9_repeatAt_0 : decode k_X9_repeatAt.2.1 0 = .ok (.aload_n 0, 1) := by decide +kernel
theorem dX9_repeatAt_1 : decode k_X9_repeatAt.2.1 1 = .ok (.invokevirtual 144, 3) := by decide +kernel
theorem dX9_repeatAt_4 : decode k_X9_repeatAt.2.1 4 = .ok (.aload_n 0, 1) := by decide +kernel
theorem dX9_repeatAt_5 : decode k_X9_repeatAt.2.1 5 = .ok (.getfield 67, 3) := by decide +kernel
theorem dX9_repeatAt_8 : decode k_X9_repeatAt.2.1 8 = .ok (.invokevirtual 285, 3) := by decide +kernel
theorem dX9_repeatAt_11 : decode k_X9_repeatAt.2.1 11 = .ok (.aload_n 0, 1) := by decide +kernel
theorem dX9_repeatAt_12 : decode k_X9_repeatAt.2.1 12 = .ok (.getfield 67, 3) := by decide +kernel
theorem dX9_repeatAt_15 : decode k_X9_repeatAt.2.1 15 = .ok (.invokevirtual 291, 3) := by decide +kernel
theorem dX9_repeatAt_18 : decode k_X9_repeatAt.2.1 18 = .ok (.ireturn, 1) := by decide +kernel
theorem dX9_hit_0 : decode k_X9_hit.2.1 0 = .ok (.iload_n 1, 1) := by decide +kernel
theorem dX9_hit_1 : decode k_X9_hit.2.1 1 = .ok (.ifCond .ge 6, 3) := by decide +kernel
theorem dX9_hit_4 : decode k_X9_hit.2.1 4 = .ok (.bipush (-3), 2) := by decide +kernel
theorem dX9_hit_6 : decode k_X9_hit.2.1 6 = .ok (.ireturn, 1) := by decide +kernel
theorem dX9_hit_7 : decode k_X9_hit.2.1 7 = .ok (.aload_n 0, 1) := by decide +kernel
theorem dX9_hit_8 : decode k_X9_hit.2.1 8 = .ok (.getfield 40, 3) := by decide +kernel
theorem dX9_hit_11 : decode k_X9_hit.2.1 11 = .ok (.invokevirtual 105, 3) := by decide +kernel
theorem dX9_hit_14 : decode k_X9_hit.2.1 14 = .ok (.ifCond .ne 6, 3) := by decide +kernel
theorem dX9_hit_17 : decode k_X9_hit.2.1 17 = .ok (.bipush (-5), 2) := by decide +kernel
theorem dX9_hit_19 : decode k_X9_hit.2.1 19 = .ok (.ireturn, 1) := by decide +kernel
theorem dX9_hit_20 : decode k_X9_hit.2.1 20 = .ok (.aload_n 0, 1) := by decide +kernel
theorem dX9_hit_21 : decode k_X9_hit.2.1 21 = .ok (.invokevirtual 144, 3) := by decide +kernel
theorem dX9_hit_24 : decode k_X9_hit.2.1 24 = .ok (.aload_n 0, 1) := by decide +kernel
theorem dX9_hit_25 : decode k_X9_hit.2.1 25 = .ok (.getfield 67, 3) := by decide +kernel
theorem dX9_hit_28 : decode k_X9_hit.2.1 28 = .ok (.aload_n 0, 1) := by decide +kernel
theorem dX9_hit_29 : decode k_X9_hit.2.1 29 = .ok (.getfield 40, 3) := by decide +kernel
theorem dX9_hit_32 : decode k_X9_hit.2.1 32 = .ok (.iload_n 1, 1) := by decide +kernel
theorem dX9_hit_33 : decode k_X9_hit.2.1 33 = .ok (.invokevirtual 294, 3) := by decide +kernel
theorem dX9_hit_36 : decode k_X9_hit.2.1 36 = .ok (.ireturn, 1) := by decide +kernel
theorem dX9_hits_0 : decode k_X9_hits.2.1 0 = .ok (.iload_n 1, 1) := by decide +kernel
theorem dX9_hits_1 : decode k_X9_hits.2.1 1 = .ok (.ifCond .lt 8, 3) := by decide +kernel
theorem dX9_hits_4 : decode k_X9_hits.2.1 4 = .ok (.iload_n 1, 1) := by decide +kernel
theorem dX9_hits_5 : decode k_X9_hits.2.1 5 = .ok (.iconst 2, 1) := by decide +kernel
theorem dX9_hits_6 : decode k_X9_hits.2.1 6 = .ok (.if_icmp .le 6, 3) := by decide +kernel
theorem dX9_hits_9 : decode k_X9_hits.2.1 9 = .ok (.bipush (-2), 2) := by decide +kernel
theorem dX9_hits_11 : decode k_X9_hits.2.1 11 = .ok (.ireturn, 1) := by decide +kernel
theorem dX9_hits_12 : decode k_X9_hits.2.1 12 = .ok (.iload_n 1, 1) := by decide +kernel
theorem dX9_hits_13 : decode k_X9_hits.2.1 13 = .ok (.iconst 2, 1) := by decide +kernel
theorem dX9_hits_14 : decode k_X9_hits.2.1 14 = .ok (.if_icmp .ne 11, 3) := by decide +kernel
theorem dX9_hits_17 : decode k_X9_hits.2.1 17 = .ok (.aload_n 0, 1) := by decide +kernel
theorem dX9_hits_18 : decode k_X9_hits.2.1 18 = .ok (.getfield 40, 3) := by decide +kernel
theorem dX9_hits_21 : decode k_X9_hits.2.1 21 = .ok (.invokevirtual 105, 3) := by decide +kernel
theorem dX9_hits_24 : decode k_X9_hits.2.1 24 = .ok (.ireturn, 1) := by decide +kernel
theorem dX9_hits_25 : decode k_X9_hits.2.1 25 = .ok (.aload_n 0, 1) := by decide +kernel
theorem dX9_hits_26 : decode k_X9_hits.2.1 26 = .ok (.getfield 40, 3) := by decide +kernel
theorem dX9_hits_29 : decode k_X9_hits.2.1 29 = .ok (.invokevirtual 105, 3) := by decide +kernel
theorem dX9_hits_32 : decode k_X9_hits.2.1 32 = .ok (.ifCond .ne 6, 3) := by decide +kernel
theorem dX9_hits_35 : decode k_X9_hits.2.1 35 = .ok (.bipush (-5), 2) := by decide +kernel
theorem dX9_hits_37 : decode k_X9_hits.2.1 37 = .ok (.ireturn, 1) := by decide +kernel
theorem dX9_hits_38 : decode k_X9_hits.2.1 38 = .ok (.aload_n 0, 1) := by decide +kernel
theorem dX9_hits_39 : decode k_X9_hits.2.1 39 = .ok (.invokevirtual 144, 3) := by decide +kernel
theorem dX9_hits_42 : decode k_X9_hits.2.1 42 = .ok (.iload_n 1, 1) := by decide +kernel
theorem dX9_hits_43 : decode k_X9_hits.2.1 43 = .ok (.ifCond .ne 17, 3) := by decide +kernel
theorem dX9_hits_46 : decode k_X9_hits.2.1 46 = .ok (.aload_n 0, 1) := by decide +kernel
theorem dX9_hits_47 : decode k_X9_hits.2.1 47 = .ok (.getfield 67, 3) := by decide +kernel
theorem dX9_hits_50 : decode k_X9_hits.2.1 50 = .ok (.aload_n 0, 1) := by decide +kernel
theorem dX9_hits_51 : decode k_X9_hits.2.1 51 = .ok (.getfield 40, 3) := by decide +kernel
theorem dX9_hits_54 : decode k_X9_hits.2.1 54 = .ok (.invokevirtual 147, 3) := by decide +kernel
theorem dX9_hits_57 : decode k_X9_hits.2.1 57 = .ok (.goto 14, 3) := by decide +kernel
theorem dX9_hits_60 : decode k_X9_hits.2.1 60 = .ok (.aload_n 0, 1) := by decide +kernel
theorem dX9_hits_61 : decode k_X9_hits.2.1 61 = .ok (.getfield 67, 3) := by decide +kernel
theorem dX9_hits_64 : decode k_X9_hits.2.1 64 = .ok (.aload_n 0, 1) := by decide +kernel
theorem dX9_hits_65 : decode k_X9_hits.2.1 65 = .ok (.getfield 40, 3) := by decide +kernel
theorem dX9_hits_68 : decode k_X9_hits.2.1 68 = .ok (.invokevirtual 298, 3) := by decide +kernel
theorem dX9_hits_71 : decode k_X9_hits.2.1 71 = .ok (.ireturn, 1) := by decide +kernel
theorem dX9_gain_0 : decode k_X9_gain.2.1 0 = .ok (.aload_n 0, 1) := by decide +kernel
theorem dX9_gain_1 : decode k_X9_gain.2.1 1 = .ok (.getfield 12, 3) := by decide +kernel
theorem dX9_gain_4 : decode k_X9_gain.2.1 4 = .ok (.iload_n 1, 1) := by decide +kernel
theorem dX9_gain_5 : decode k_X9_gain.2.1 5 = .ok (.invokevirtual 188, 3) := by decide +kernel
theorem dX9_gain_8 : decode k_X9_gain.2.1 8 = .ok (.ifCond .eq 14, 3) := by decide +kernel
theorem dX9_gain_11 : decode k_X9_gain.2.1 11 = .ok (.aload_n 0, 1) := by decide +kernel
theorem dX9_gain_12 : decode k_X9_gain.2.1 12 = .ok (.getfield 12, 3) := by decide +kernel
theorem dX9_gain_15 : decode k_X9_gain.2.1 15 = .ok (.iload_n 2, 1) := by decide +kernel
theorem dX9_gain_16 : decode k_X9_gain.2.1 16 = .ok (.invokevirtual 188, 3) := by decide +kernel
theorem dX9_gain_19 : decode k_X9_gain.2.1 19 = .ok (.ifCond .ne 6, 3) := by decide +kernel
theorem dX9_gain_22 : decode k_X9_gain.2.1 22 = .ok (.bipush (-2), 2) := by decide +kernel
theorem dX9_gain_24 : decode k_X9_gain.2.1 24 = .ok (.ireturn, 1) := by decide +kernel
theorem dX9_gain_25 : decode k_X9_gain.2.1 25 = .ok (.aload_n 0, 1) := by decide +kernel
theorem dX9_gain_26 : decode k_X9_gain.2.1 26 = .ok (.getfield 84, 3) := by decide +kernel
theorem dX9_gain_29 : decode k_X9_gain.2.1 29 = .ok (.aload_n 0, 1) := by decide +kernel
theorem dX9_gain_30 : decode k_X9_gain.2.1 30 = .ok (.getfield 12, 3) := by decide +kernel
theorem dX9_gain_33 : decode k_X9_gain.2.1 33 = .ok (.invokevirtual 135, 3) := by decide +kernel
theorem dX9_gain_36 : decode k_X9_gain.2.1 36 = .ok (.invokevirtual 168, 3) := by decide +kernel
theorem dX9_gain_39 : decode k_X9_gain.2.1 39 = .ok (.aload_n 0, 1) := by decide +kernel
theorem dX9_gain_40 : decode k_X9_gain.2.1 40 = .ok (.getfield 84, 3) := by decide +kernel
theorem dX9_gain_43 : decode k_X9_gain.2.1 43 = .ok (.iload_n 1, 1) := by decide +kernel
theorem dX9_gain_44 : decode k_X9_gain.2.1 44 = .ok (.iload_n 2, 1) := by decide +kernel
theorem dX9_gain_45 : decode k_X9_gain.2.1 45 = .ok (.invokevirtual 191, 3) := by decide +kernel
theorem dX9_gain_48 : decode k_X9_gain.2.1 48 = .ok (.istore_n 3, 1) := by decide +kernel
theorem dX9_gain_49 : decode k_X9_gain.2.1 49 = .ok (.iload_n 3, 1) := by decide +kernel
theorem dX9_gain_50 : decode k_X9_gain.2.1 50 = .ok (.ifCond .ne 6, 3) := by decide +kernel
theorem dX9_gain_53 : decode k_X9_gain.2.1 53 = .ok (.bipush (-5), 2) := by decide +kernel
theorem dX9_gain_55 : decode k_X9_gain.2.1 55 = .ok (.ireturn, 1) := by decide +kernel
theorem dX9_gain_56 : decode k_X9_gain.2.1 56 = .ok (.aload_n 0, 1) := by decide +kernel
theorem dX9_gain_57 : decode k_X9_gain.2.1 57 = .ok (.getfield 12, 3) := by decide +kernel
theorem dX9_gain_60 : decode k_X9_gain.2.1 60 = .ok (.iload_n 1, 1) := by decide +kernel
theorem dX9_gain_61 : decode k_X9_gain.2.1 61 = .ok (.iload_n 2, 1) := by decide +kernel
theorem dX9_gain_62 : decode k_X9_gain.2.1 62 = .ok (.invokevirtual 301, 3) := by decide +kernel
theorem dX9_gain_65 : decode k_X9_gain.2.1 65 = .ok (.iconst (-1), 1) := by decide +kernel
theorem dX9_gain_66 : decode k_X9_gain.2.1 66 = .ok (.if_icmp .ne 9, 3) := by decide +kernel
theorem dX9_gain_69 : decode k_X9_gain.2.1 69 = .ok (.iload_n 3, 1) := by decide +kernel
theorem dX9_gain_70 : decode k_X9_gain.2.1 70 = .ok (.iconst 2, 1) := by decide +kernel
theorem dX9_gain_71 : decode k_X9_gain.2.1 71 = .ok (.isub, 1) := by decide +kernel
theorem dX9_gain_72 : decode k_X9_gain.2.1 72 = .ok (.goto 4, 3) := by decide +kernel
theorem dX9_gain_75 : decode k_X9_gain.2.1 75 = .ok (.iload_n 3, 1) := by decide +kernel
theorem dX9_gain_76 : decode k_X9_gain.2.1 76 = .ok (.ireturn, 1) := by decide +kernel
theorem dX9_best_0 : decode k_X9_best.2.1 0 = .ok (.iload_n 1, 1) := by decide +kernel
theorem dX9_best_1 : decode k_X9_best.2.1 1 = .ok (.ifCond .lt 8, 3) := by decide +kernel
theorem dX9_best_4 : decode k_X9_best.2.1 4 = .ok (.iload_n 1, 1) := by decide +kernel
theorem dX9_best_5 : decode k_X9_best.2.1 5 = .ok (.iconst 2, 1) := by decide +kernel
theorem dX9_best_6 : decode k_X9_best.2.1 6 = .ok (.if_icmp .le 6, 3) := by decide +kernel
theorem dX9_best_9 : decode k_X9_best.2.1 9 = .ok (.bipush (-3), 2) := by decide +kernel
theorem dX9_best_11 : decode k_X9_best.2.1 11 = .ok (.ireturn, 1) := by decide +kernel
theorem dX9_best_12 : decode k_X9_best.2.1 12 = .ok (.aload_n 0, 1) := by decide +kernel
theorem dX9_best_13 : decode k_X9_best.2.1 13 = .ok (.getfield 91, 3) := by decide +kernel
theorem dX9_best_16 : decode k_X9_best.2.1 16 = .ok (.aload_n 0, 1) := by decide +kernel
theorem dX9_best_17 : decode k_X9_best.2.1 17 = .ok (.getfield 12, 3) := by decide +kernel
theorem dX9_best_20 : decode k_X9_best.2.1 20 = .ok (.iload_n 1, 1) := by decide +kernel
theorem dX9_best_21 : decode k_X9_best.2.1 21 = .ok (.invokevirtual 304, 3) := by decide +kernel
theorem dX9_best_24 : decode k_X9_best.2.1 24 = .ok (.ireturn, 1) := by decide +kernel
theorem dX9_bits_0 : decode k_X9_bits.2.1 0 = .ok (.iload_n 1, 1) := by decide +kernel
theorem dX9_bits_1 : decode k_X9_bits.2.1 1 = .ok (.ifCond .lt 8, 3) := by decide +kernel
theorem dX9_bits_4 : decode k_X9_bits.2.1 4 = .ok (.iload_n 1, 1) := by decide +kernel
theorem dX9_bits_5 : decode k_X9_bits.2.1 5 = .ok (.iconst 2, 1) := by decide +kernel
theorem dX9_bits_6 : decode k_X9_bits.2.1 6 = .ok (.if_icmp .le 7, 3) := by decide +kernel
theorem dX9_bits_9 : decode k_X9_bits.2.1 9 = .ok (.ldc_w 308, 3) := by decide +kernel
theorem dX9_bits_12 : decode k_X9_bits.2.1 12 = .ok (.ireturn, 1) := by decide +kernel
theorem dX9_bits_13 : decode k_X9_bits.2.1 13 = .ok (.aload_n 0, 1) := by decide +kernel
theorem dX9_bits_14 : decode k_X9_bits.2.1 14 = .ok (.invokevirtual 144, 3) := by decide +kernel
theorem dX9_bits_17 : decode k_X9_bits.2.1 17 = .ok (.iload_n 1, 1) := by decide +kernel
theorem dX9_bits_18 : decode k_X9_bits.2.1 18 = .ok (.ifCond .ne 18, 3) := by decide +kernel
theorem dX9_bits_21 : decode k_X9_bits.2.1 21 = .ok (.aload_n 0, 1) := by decide +kernel
theorem dX9_bits_22 : decode k_X9_bits.2.1 22 = .ok (.aload_n 0, 1) := by decide +kernel
theorem dX9_bits_23 : decode k_X9_bits.2.1 23 = .ok (.getfield 12, 3) := by decide +kernel
theorem dX9_bits_26 : decode k_X9_bits.2.1 26 = .ok (.invokevirtual 203, 3) := by decide +kernel
theorem dX9_bits_29 : decode k_X9_bits.2.1 29 = .ok (.invokevirtual 309, 3) := by decide +kernel
theorem dX9_bits_32 : decode k_X9_bits.2.1 32 = .ok (.invokestatic 313, 3) := by decide +kernel
theorem dX9_bits_35 : decode k_X9_bits.2.1 35 = .ok (.ireturn, 1) := by decide +kernel
theorem dX9_bits_36 : decode k_X9_bits.2.1 36 = .ok (.iload_n 1, 1) := by decide +kernel
theorem dX9_bits_37 : decode k_X9_bits.2.1 37 = .ok (.iconst 1, 1) := by decide +kernel
theorem dX9_bits_38 : decode k_X9_bits.2.1 38 = .ok (.if_icmp .ne 17, 3) := by decide +kernel
theorem dX9_bits_41 : decode k_X9_bits.2.1 41 = .ok (.aload_n 0, 1) := by decide +kernel
theorem dX9_bits_42 : decode k_X9_bits.2.1 42 = .ok (.aload_n 0, 1) := by decide +kernel
theorem dX9_bits_43 : decode k_X9_bits.2.1 43 = .ok (.getfield 67, 3) := by decide +kernel
theorem dX9_bits_46 : decode k_X9_bits.2.1 46 = .ok (.invokevirtual 317, 3) := by decide +kernel
theorem dX9_bits_49 : decode k_X9_bits.2.1 49 = .ok (.invokevirtual 309, 3) := by decide +kernel
theorem dX9_bits_52 : decode k_X9_bits.2.1 52 = .ok (.goto 7, 3) := by decide +kernel
theorem dX9_bits_55 : decode k_X9_bits.2.1 55 = .ok (.aload_n 0, 1) := by decide +kernel
theorem dX9_bits_56 : decode k_X9_bits.2.1 56 = .ok (.invokevirtual 320, 3) := by decide +kernel
theorem dX9_bits_59 : decode k_X9_bits.2.1 59 = .ok (.invokestatic 313, 3) := by decide +kernel
theorem dX9_bits_62 : decode k_X9_bits.2.1 62 = .ok (.ireturn, 1) := by decide +kernel
theorem dX9_form_0 : decode k_X9_form.2.1 0 = .ok (.iload_n 1, 1) := by decide +kernel
theorem dX9_form_1 : decode k_X9_form.2.1 1 = .ok (.ifCond .ge 6, 3) := by decide +kernel
theorem dX9_form_4 : decode k_X9_form.2.1 4 = .ok (.bipush (-3), 2) := by decide +kernel
theorem dX9_form_6 : decode k_X9_form.2.1 6 = .ok (.ireturn, 1) := by decide +kernel
theorem dX9_form_7 : decode k_X9_form.2.1 7 = .ok (.aload_n 0, 1) := by decide +kernel
theorem dX9_form_8 : decode k_X9_form.2.1 8 = .ok (.invokevirtual 324, 3) := by decide +kernel
theorem dX9_form_11 : decode k_X9_form.2.1 11 = .ok (.aload_n 0, 1) := by decide +kernel
theorem dX9_form_12 : decode k_X9_form.2.1 12 = .ok (.getfield 102, 3) := by decide +kernel
theorem dX9_form_15 : decode k_X9_form.2.1 15 = .ok (.iload_n 1, 1) := by decide +kernel
theorem dX9_form_16 : decode k_X9_form.2.1 16 = .ok (.invokevirtual 237, 3) := by decide +kernel
theorem dX9_form_19 : decode k_X9_form.2.1 19 = .ok (.ireturn, 1) := by decide +kernel
theorem dX9_code_0 : decode k_X9_code.2.1 0 = .ok (.aload_n 0, 1) := by decide +kernel
theorem dX9_code_1 : decode k_X9_code.2.1 1 = .ok (.getfield 12, 3) := by decide +kernel
theorem dX9_code_4 : decode k_X9_code.2.1 4 = .ok (.iload_n 1, 1) := by decide +kernel
theorem dX9_code_5 : decode k_X9_code.2.1 5 = .ok (.invokevirtual 188, 3) := by decide +kernel
theorem dX9_code_8 : decode k_X9_code.2.1 8 = .ok (.ifCond .eq 12, 3) := by decide +kernel
theorem dX9_code_11 : decode k_X9_code.2.1 11 = .ok (.iload_n 2, 1) := by decide +kernel
theorem dX9_code_12 : decode k_X9_code.2.1 12 = .ok (.ifCond .lt 8, 3) := by decide +kernel
theorem dX9_code_15 : decode k_X9_code.2.1 15 = .ok (.iload_n 2, 1) := by decide +kernel
theorem dX9_code_16 : decode k_X9_code.2.1 16 = .ok (.iconst 1, 1) := by decide +kernel
theorem dX9_code_17 : decode k_X9_code.2.1 17 = .ok (.if_icmp .le 6, 3) := by decide +kernel
theorem dX9_code_20 : decode k_X9_code.2.1 20 = .ok (.bipush (-2), 2) := by decide +kernel
theorem dX9_code_22 : decode k_X9_code.2.1 22 = .ok (.ireturn, 1) := by decide +kernel
theorem dX9_code_23 : decode k_X9_code.2.1 23 = .ok (.aload_n 0, 1) := by decide +kernel
theorem dX9_code_24 : decode k_X9_code.2.1 24 = .ok (.getfield 98, 3) := by decide +kernel
theorem dX9_code_27 : decode k_X9_code.2.1 27 = .ok (.aload_n 0, 1) := by decide +kernel
theorem dX9_code_28 : decode k_X9_code.2.1 28 = .ok (.getfield 12, 3) := by decide +kernel
theorem dX9_code_31 : decode k_X9_code.2.1 31 = .ok (.invokevirtual 135, 3) := by decide +kernel
theorem dX9_code_34 : decode k_X9_code.2.1 34 = .ok (.invokevirtual 327, 3) := by decide +kernel
theorem dX9_code_37 : decode k_X9_code.2.1 37 = .ok (.iload_n 2, 1) := by decide +kernel
theorem dX9_code_38 : decode k_X9_code.2.1 38 = .ok (.ifCond .ne 14, 3) := by decide +kernel
theorem dX9_code_41 : decode k_X9_code.2.1 41 = .ok (.aload_n 0, 1) := by decide +kernel
theorem dX9_code_42 : decode k_X9_code.2.1 42 = .ok (.getfield 98, 3) := by decide +kernel
theorem dX9_code_45 : decode k_X9_code.2.1 45 = .ok (.iload_n 1, 1) := by decide +kernel
theorem dX9_code_46 : decode k_X9_code.2.1 46 = .ok (.invokevirtual 330, 3) := by decide +kernel
theorem dX9_code_49 : decode k_X9_code.2.1 49 = .ok (.goto 11, 3) := by decide +kernel
theorem dX9_code_52 : decode k_X9_code.2.1 52 = .ok (.aload_n 0, 1) := by decide +kernel
theorem dX9_code_53 : decode k_X9_code.2.1 53 = .ok (.getfield 98, 3) := by decide +kernel
theorem dX9_code_56 : decode k_X9_code.2.1 56 = .ok (.iload_n 1, 1) := by decide +kernel
theorem dX9_code_57 : decode k_X9_code.2.1 57 = .ok (.invokevirtual 333, 3) := by decide +kernel
theorem dX9_code_60 : decode k_X9_code.2.1 60 = .ok (.ireturn, 1) := by decide +kernel
theorem dX9_coded_0 : decode k_X9_coded.2.1 0 = .ok (.iload_n 1, 1) := by decide +kernel
theorem dX9_coded_1 : decode k_X9_coded.2.1 1 = .ok (.ifCond .ge 6, 3) := by decide +kernel
theorem dX9_coded_4 : decode k_X9_coded.2.1 4 = .ok (.bipush (-3), 2) := by decide +kernel
theorem dX9_coded_6 : decode k_X9_coded.2.1 6 = .ok (.ireturn, 1) := by decide +kernel
theorem dX9_coded_7 : decode k_X9_coded.2.1 7 = .ok (.aload_n 0, 1) := by decide +kernel
theorem dX9_coded_8 : decode k_X9_coded.2.1 8 = .ok (.getfield 98, 3) := by decide +kernel
theorem dX9_coded_11 : decode k_X9_coded.2.1 11 = .ok (.aload_n 0, 1) := by decide +kernel
theorem dX9_coded_12 : decode k_X9_coded.2.1 12 = .ok (.getfield 12, 3) := by decide +kernel
theorem dX9_coded_15 : decode k_X9_coded.2.1 15 = .ok (.invokevirtual 135, 3) := by decide +kernel
theorem dX9_coded_18 : decode k_X9_coded.2.1 18 = .ok (.invokevirtual 327, 3) := by decide +kernel
theorem dX9_coded_21 : decode k_X9_coded.2.1 21 = .ok (.aload_n 0, 1) := by decide +kernel
theorem dX9_coded_22 : decode k_X9_coded.2.1 22 = .ok (.getfield 98, 3) := by decide +kernel
theorem dX9_coded_25 : decode k_X9_coded.2.1 25 = .ok (.iload_n 1, 1) := by decide +kernel
theorem dX9_coded_26 : decode k_X9_coded.2.1 26 = .ok (.invokevirtual 336, 3) := by decide +kernel
theorem dX9_coded_29 : decode k_X9_coded.2.1 29 = .ok (.ireturn, 1) := by decide +kernel
theorem dX9_undo_0 : decode k_X9_undo.2.1 0 = .ok (.iload_n 1, 1) := by decide +kernel
theorem dX9_undo_1 : decode k_X9_undo.2.1 1 = .ok (.iconst 1, 1) := by decide +kernel
theorem dX9_undo_2 : decode k_X9_undo.2.1 2 = .ok (.if_icmp .lt 14, 3) := by decide +kernel
theorem dX9_undo_5 : decode k_X9_undo.2.1 5 = .ok (.iload_n 1, 1) := by decide +kernel
theorem dX9_undo_6 : decode k_X9_undo.2.1 6 = .ok (.aload_n 0, 1) := by decide +kernel
theorem dX9_undo_7 : decode k_X9_undo.2.1 7 = .ok (.getfield 19, 3) := by decide +kernel
theorem dX9_undo_10 : decode k_X9_undo.2.1 10 = .ok (.invokevirtual 339, 3) := by decide +kernel
theorem dX9_undo_13 : decode k_X9_undo.2.1 13 = .ok (.if_icmp .le 6, 3) := by decide +kernel
theorem dX9_undo_16 : decode k_X9_undo.2.1 16 = .ok (.bipush (-3), 2) := by decide +kernel
theorem dX9_undo_18 : decode k_X9_undo.2.1 18 = .ok (.ireturn, 1) := by decide +kernel
theorem dX9_undo_19 : decode k_X9_undo.2.1 19 = .ok (.aload_n 0, 1) := by decide +kernel
theorem dX9_undo_20 : decode k_X9_undo.2.1 20 = .ok (.getfield 19, 3) := by decide +kernel
theorem dX9_undo_23 : decode k_X9_undo.2.1 23 = .ok (.iload_n 1, 1) := by decide +kernel
theorem dX9_undo_24 : decode k_X9_undo.2.1 24 = .ok (.aload_n 0, 1) := by decide +kernel
theorem dX9_undo_25 : decode k_X9_undo.2.1 25 = .ok (.getfield 12, 3) := by decide +kernel
theorem dX9_undo_28 : decode k_X9_undo.2.1 28 = .ok (.invokevirtual 340, 3) := by decide +kernel
theorem dX9_undo_31 : decode k_X9_undo.2.1 31 = .ok (.aload_n 0, 1) := by decide +kernel
theorem dX9_undo_32 : decode k_X9_undo.2.1 32 = .ok (.iconst 0, 1) := by decide +kernel
theorem dX9_undo_33 : decode k_X9_undo.2.1 33 = .ok (.putfield 71, 3) := by decide +kernel
theorem dX9_undo_36 : decode k_X9_undo.2.1 36 = .ok (.aload_n 0, 1) := by decide +kernel
theorem dX9_undo_37 : decode k_X9_undo.2.1 37 = .ok (.getfield 19, 3) := by decide +kernel
theorem dX9_undo_40 : decode k_X9_undo.2.1 40 = .ok (.invokevirtual 339, 3) := by decide +kernel
theorem dX9_undo_43 : decode k_X9_undo.2.1 43 = .ok (.ireturn, 1) := by decide +kernel
theorem dX9_image_0 : decode k_X9_image.2.1 0 = .ok (.iload_n 1, 1) := by decide +kernel
theorem dX9_image_1 : decode k_X9_image.2.1 1 = .ok (.ifCond .lt 8, 3) := by decide +kernel
theorem dX9_image_4 : decode k_X9_image.2.1 4 = .ok (.iload_n 1, 1) := by decide +kernel
theorem dX9_image_5 : decode k_X9_image.2.1 5 = .ok (.iconst 2, 1) := by decide +kernel
theorem dX9_image_6 : decode k_X9_image.2.1 6 = .ok (.if_icmp .lt 6, 3) := by decide +kernel
theorem dX9_image_9 : decode k_X9_image.2.1 9 = .ok (.bipush (-2), 2) := by decide +kernel
theorem dX9_image_11 : decode k_X9_image.2.1 11 = .ok (.ireturn, 1) := by decide +kernel
theorem dX9_image_12 : decode k_X9_image.2.1 12 = .ok (.aload_n 0, 1) := by decide +kernel
theorem dX9_image_13 : decode k_X9_image.2.1 13 = .ok (.getfield 23, 3) := by decide +kernel
theorem dX9_image_16 : decode k_X9_image.2.1 16 = .ok (.iload_n 1, 1) := by decide +kernel
theorem dX9_image_17 : decode k_X9_image.2.1 17 = .ok (.aaload, 1) := by decide +kernel
theorem dX9_image_18 : decode k_X9_image.2.1 18 = .ok (.aload_n 0, 1) := by decide +kernel
theorem dX9_image_19 : decode k_X9_image.2.1 19 = .ok (.getfield 12, 3) := by decide +kernel
theorem dX9_image_22 : decode k_X9_image.2.1 22 = .ok (.invokevirtual 162, 3) := by decide +kernel
theorem dX9_image_25 : decode k_X9_image.2.1 25 = .ok (.aload_n 0, 1) := by decide +kernel
theorem dX9_image_26 : decode k_X9_image.2.1 26 = .ok (.getfield 27, 3) := by decide +kernel
theorem dX9_image_29 : decode k_X9_image.2.1 29 = .ok (.iload_n 1, 1) := by decide +kernel
theorem dX9_image_30 : decode k_X9_image.2.1 30 = .ok (.iconst 1, 1) := by decide +kernel
theorem dX9_image_31 : decode k_X9_image.2.1 31 = .ok (.bastore, 1) := by decide +kernel
theorem dX9_image_32 : decode k_X9_image.2.1 32 = .ok (.iconst 0, 1) := by decide +kernel
theorem dX9_image_33 : decode k_X9_image.2.1 33 = .ok (.ireturn, 1) := by decide +kernel
theorem dX9_restore_0 : decode k_X9_restore.2.1 0 = .ok (.iload_n 1, 1) := by decide +kernel
theorem dX9_restore_1 : decode k_X9_restore.2.1 1 = .ok (.ifCond .lt 8, 3) := by decide +kernel
theorem dX9_restore_4 : decode k_X9_restore.2.1 4 = .ok (.iload_n 1, 1) := by decide +kernel
theorem dX9_restore_5 : decode k_X9_restore.2.1 5 = .ok (.iconst 2, 1) := by decide +kernel
theorem dX9_restore_6 : decode k_X9_restore.2.1 6 = .ok (.if_icmp .lt 6, 3) := by decide +kernel
theorem dX9_restore_9 : decode k_X9_restore.2.1 9 = .ok (.bipush (-2), 2) := by decide +kernel
theorem dX9_restore_11 : decode k_X9_restore.2.1 11 = .ok (.ireturn, 1) := by decide +kernel
theorem dX9_restore_12 : decode k_X9_restore.2.1 12 = .ok (.aload_n 0, 1) := by decide +kernel
theorem dX9_restore_13 : decode k_X9_restore.2.1 13 = .ok (.getfield 27, 3) := by decide +kernel
theorem dX9_restore_16 : decode k_X9_restore.2.1 16 = .ok (.iload_n 1, 1) := by decide +kernel
theorem dX9_restore_17 : decode k_X9_restore.2.1 17 = .ok (.baload, 1) := by decide +kernel
theorem dX9_restore_18 : decode k_X9_restore.2.1 18 = .ok (.ifCond .ne 6, 3) := by decide +kernel
theorem dX9_restore_21 : decode k_X9_restore.2.1 21 = .ok (.bipush (-6), 2) := by decide +kernel
theorem dX9_restore_23 : decode k_X9_restore.2.1 23 = .ok (.ireturn, 1) := by decide +kernel
theorem dX9_restore_24 : decode k_X9_restore.2.1 24 = .ok (.aload_n 0, 1) := by decide +kernel
theorem dX9_restore_25 : decode k_X9_restore.2.1 25 = .ok (.getfield 12, 3) := by decide +kernel
theorem dX9_restore_28 : decode k_X9_restore.2.1 28 = .ok (.aload_n 0, 1) := by decide +kernel
theorem dX9_restore_29 : decode k_X9_restore.2.1 29 = .ok (.getfield 23, 3) := by decide +kernel
theorem dX9_restore_32 : decode k_X9_restore.2.1 32 = .ok (.iload_n 1, 1) := by decide +kernel
theorem dX9_restore_33 : decode k_X9_restore.2.1 33 = .ok (.aaload, 1) := by decide +kernel
theorem dX9_restore_34 : decode k_X9_restore.2.1 34 = .ok (.invokevirtual 162, 3) := by decide +kernel
theorem dX9_restore_37 : decode k_X9_restore.2.1 37 = .ok (.aload_n 0, 1) := by decide +kernel
theorem dX9_restore_38 : decode k_X9_restore.2.1 38 = .ok (.getfield 19, 3) := by decide +kernel
theorem dX9_restore_41 : decode k_X9_restore.2.1 41 = .ok (.invokevirtual 344, 3) := by decide +kernel
theorem dX9_restore_44 : decode k_X9_restore.2.1 44 = .ok (.aload_n 0, 1) := by decide +kernel
theorem dX9_restore_45 : decode k_X9_restore.2.1 45 = .ok (.iconst 0, 1) := by decide +kernel
theorem dX9_restore_46 : decode k_X9_restore.2.1 46 = .ok (.putfield 71, 3) := by decide +kernel
theorem dX9_restore_49 : decode k_X9_restore.2.1 49 = .ok (.iconst 0, 1) := by decide +kernel
theorem dX9_restore_50 : decode k_X9_restore.2.1 50 = .ok (.ireturn, 1) := by decide +kernel
theorem dX9_count_0 : decode k_X9_count.2.1 0 = .ok (.aload_n 0, 1) := by decide +kernel
theorem dX9_count_1 : decode k_X9_count.2.1 1 = .ok (.invokevirtual 144, 3) := by decide +kernel
theorem dX9_count_4 : decode k_X9_count.2.1 4 = .ok (.iload_n 1, 1) := by decide +kernel
theorem dX9_count_5 : decode k_X9_count.2.1 5 = .ok (.tableswitch 179 0 10 #[59, 67, 78, 86, 94, 99, 107, 115, 137, 145, 157], 59) := by decide +kernel
theorem dX9_count_64 : decode k_X9_count.2.1 64 = .ok (.aload_n 0, 1) := by decide +kernel
theorem dX9_count_65 : decode k_X9_count.2.1 65 = .ok (.getfield 67, 3) := by decide +kernel
theorem dX9_count_68 : decode k_X9_count.2.1 68 = .ok (.invokevirtual 207, 3) := by decide +kernel
theorem dX9_count_71 : decode k_X9_count.2.1 71 = .ok (.ireturn, 1) := by decide +kernel
theorem dX9_count_72 : decode k_X9_count.2.1 72 = .ok (.aload_n 0, 1) := by decide +kernel
theorem dX9_count_73 : decode k_X9_count.2.1 73 = .ok (.getfield 12, 3) := by decide +kernel
theorem dX9_count_76 : decode k_X9_count.2.1 76 = .ok (.invokevirtual 135, 3) := by decide +kernel
theorem dX9_count_79 : decode k_X9_count.2.1 79 = .ok (.invokevirtual 105, 3) := by decide +kernel
theorem dX9_count_82 : decode k_X9_count.2.1 82 = .ok (.ireturn, 1) := by decide +kernel
theorem dX9_count_83 : decode k_X9_count.2.1 83 = .ok (.aload_n 0, 1) := by decide +kernel
theorem dX9_count_84 : decode k_X9_count.2.1 84 = .ok (.getfield 12, 3) := by decide +kernel
theorem dX9_count_87 : decode k_X9_count.2.1 87 = .ok (.invokevirtual 347, 3) := by decide +kernel
theorem dX9_count_90 : decode k_X9_count.2.1 90 = .ok (.ireturn, 1) := by decide +kernel
theorem dX9_count_91 : decode k_X9_count.2.1 91 = .ok (.aload_n 0, 1) := by decide +kernel
theorem dX9_count_92 : decode k_X9_count.2.1 92 = .ok (.getfield 12, 3) := by decide +kernel
theorem dX9_count_95 : decode k_X9_count.2.1 95 = .ok (.invokevirtual 203, 3) := by decide +kernel
theorem dX9_count_98 : decode k_X9_count.2.1 98 = .ok (.ireturn, 1) := by decide +kernel
theorem dX9_count_99 : decode k_X9_count.2.1 99 = .ok (.aload_n 0, 1) := by decide +kernel
theorem dX9_count_100 : decode k_X9_count.2.1 100 = .ok (.invokevirtual 350, 3) := by decide +kernel
theorem dX9_count_103 : decode k_X9_count.2.1 103 = .ok (.ireturn, 1) := by decide +kernel
theorem dX9_count_104 : decode k_X9_count.2.1 104 = .ok (.aload_n 0, 1) := by decide +kernel
theorem dX9_count_105 : decode k_X9_count.2.1 105 = .ok (.getfield 36, 3) := by decide +kernel
theorem dX9_count_108 : decode k_X9_count.2.1 108 = .ok (.invokevirtual 105, 3) := by decide +kernel
theorem dX9_count_111 : decode k_X9_count.2.1 111 = .ok (.ireturn, 1) := by decide +kernel
theorem dX9_count_112 : decode k_X9_count.2.1 112 = .ok (.aload_n 0, 1) := by decide +kernel
theorem dX9_count_113 : decode k_X9_count.2.1 113 = .ok (.getfield 19, 3) := by decide +kernel
theorem dX9_count_116 : decode k_X9_count.2.1 116 = .ok (.invokevirtual 339, 3) := by decide +kernel
theorem dX9_count_119 : decode k_X9_count.2.1 119 = .ok (.ireturn, 1) := by decide +kernel
theorem dX9_count_120 : decode k_X9_count.2.1 120 = .ok (.aload_n 0, 1) := by decide +kernel
theorem dX9_count_121 : decode k_X9_count.2.1 121 = .ok (.getfield 84, 3) := by decide +kernel
theorem dX9_count_124 : decode k_X9_count.2.1 124 = .ok (.aload_n 0, 1) := by decide +kernel
theorem dX9_count_125 : decode k_X9_count.2.1 125 = .ok (.getfield 12, 3) := by decide +kernel
theorem dX9_count_128 : decode k_X9_count.2.1 128 = .ok (.invokevirtual 135, 3) := by decide +kernel
theorem dX9_count_131 : decode k_X9_count.2.1 131 = .ok (.invokevirtual 168, 3) := by decide +kernel
theorem dX9_count_134 : decode k_X9_count.2.1 134 = .ok (.aload_n 0, 1) := by decide +kernel
theorem dX9_count_135 : decode k_X9_count.2.1 135 = .ok (.getfield 84, 3) := by decide +kernel
theorem dX9_count_138 : decode k_X9_count.2.1 138 = .ok (.invokevirtual 353, 3) := by decide +kernel
theorem dX9_count_141 : decode k_X9_count.2.1 141 = .ok (.ireturn, 1) := by decide +kernel
theorem dX9_count_142 : decode k_X9_count.2.1 142 = .ok (.aload_n 0, 1) := by decide +kernel
theorem dX9_count_143 : decode k_X9_count.2.1 143 = .ok (.getfield 12, 3) := by decide +kernel
theorem dX9_count_146 : decode k_X9_count.2.1 146 = .ok (.invokevirtual 356, 3) := by decide +kernel
theorem dX9_count_149 : decode k_X9_count.2.1 149 = .ok (.ireturn, 1) := by decide +kernel
theorem dX9_count_150 : decode k_X9_count.2.1 150 = .ok (.aload_n 0, 1) := by decide +kernel
theorem dX9_count_151 : decode k_X9_count.2.1 151 = .ok (.invokevirtual 324, 3) := by decide +kernel
theorem dX9_count_154 : decode k_X9_count.2.1 154 = .ok (.aload_n 0, 1) := by decide +kernel
theorem dX9_count_155 : decode k_X9_count.2.1 155 = .ok (.getfield 102, 3) := by decide +kernel
theorem dX9_count_158 : decode k_X9_count.2.1 158 = .ok (.invokevirtual 105, 3) := by decide +kernel
theorem dX9_count_161 : decode k_X9_count.2.1 161 = .ok (.ireturn, 1) := by decide +kernel
theorem dX9_count_162 : decode k_X9_count.2.1 162 = .ok (.aload_n 0, 1) := by decide +kernel
theorem dX9_count_163 : decode k_X9_count.2.1 163 = .ok (.getfield 98, 3) := by decide +kernel
theorem dX9_count_166 : decode k_X9_count.2.1 166 = .ok (.aload_n 0, 1) := by decide +kernel
theorem dX9_count_167 : decode k_X9_count.2.1 167 = .ok (.getfield 12, 3) := by decide +kernel
theorem dX9_count_170 : decode k_X9_count.2.1 170 = .ok (.invokevirtual 135, 3) := by decide +kernel
theorem dX9_count_173 : decode k_X9_count.2.1 173 = .ok (.invokevirtual 327, 3) := by decide +kernel
theorem dX9_count_176 : decode k_X9_count.2.1 176 = .ok (.aload_n 0, 1) := by decide +kernel
theorem dX9_count_177 : decode k_X9_count.2.1 177 = .ok (.getfield 98, 3) := by decide +kernel
theorem dX9_count_180 : decode k_X9_count.2.1 180 = .ok (.invokevirtual 359, 3) := by decide +kernel
theorem dX9_count_183 : decode k_X9_count.2.1 183 = .ok (.ireturn, 1) := by decide +kernel
theorem dX9_count_184 : decode k_X9_count.2.1 184 = .ok (.iconst (-1), 1) := by decide +kernel
theorem dX9_count_185 : decode k_X9_count.2.1 185 = .ok (.ireturn, 1) := by decide +kernel
theorem dX9_isLetter_0 : decode k_X9_isLetter.2.1 0 = .ok (.iload_n 0, 1) := by decide +kernel
theorem dX9_isLetter_1 : decode k_X9_isLetter.2.1 1 = .ok (.ifCond .lt 13, 3) := by decide +kernel
theorem dX9_isLetter_4 : decode k_X9_isLetter.2.1 4 = .ok (.iload_n 0, 1) := by decide +kernel
theorem dX9_isLetter_5 : decode k_X9_isLetter.2.1 5 = .ok (.bipush 26, 2) := by decide +kernel
theorem dX9_isLetter_7 : decode k_X9_isLetter.2.1 7 = .ok (.if_icmp .ge 7, 3) := by decide +kernel
theorem dX9_isLetter_10 : decode k_X9_isLetter.2.1 10 = .ok (.iconst 1, 1) := by decide +kernel
theorem dX9_isLetter_11 : decode k_X9_isLetter.2.1 11 = .ok (.goto 4, 3) := by decide +kernel
theorem dX9_isLetter_14 : decode k_X9_isLetter.2.1 14 = .ok (.iconst 0, 1) := by decide +kernel
theorem dX9_isLetter_15 : decode k_X9_isLetter.2.1 15 = .ok (.ireturn, 1) := by decide +kernel
theorem dX9_read_0 : decode k_X9_read.2.1 0 = .ok (.aload_n 0, 1) := by decide +kernel
theorem dX9_read_1 : decode k_X9_read.2.1 1 = .ok (.getfield 71, 3) := by decide +kernel
theorem dX9_read_4 : decode k_X9_read.2.1 4 = .ok (.ifCond .eq 4, 3) := by decide +kernel
theorem dX9_read_7 : decode k_X9_read.2.1 7 = .ok (.return_, 1) := by decide +kernel
theorem dX9_read_8 : decode k_X9_read.2.1 8 = .ok (.aload_n 0, 1) := by decide +kernel
theorem dX9_read_9 : decode k_X9_read.2.1 9 = .ok (.getfield 60, 3) := by decide +kernel
theorem dX9_read_12 : decode k_X9_read.2.1 12 = .ok (.aload_n 0, 1) := by decide +kernel
theorem dX9_read_13 : decode k_X9_read.2.1 13 = .ok (.getfield 12, 3) := by decide +kernel
theorem dX9_read_16 : decode k_X9_read.2.1 16 = .ok (.invokevirtual 362, 3) := by decide +kernel
theorem dX9_read_19 : decode k_X9_read.2.1 19 = .ok (.aload_n 0, 1) := by decide +kernel
theorem dX9_read_20 : decode k_X9_read.2.1 20 = .ok (.getfield 67, 3) := by decide +kernel
theorem dX9_read_23 : decode k_X9_read.2.1 23 = .ok (.aload_n 0, 1) := by decide +kernel
theorem dX9_read_24 : decode k_X9_read.2.1 24 = .ok (.getfield 12, 3) := by decide +kernel
theorem dX9_read_27 : decode k_X9_read.2.1 27 = .ok (.invokevirtual 135, 3) := by decide +kernel
theorem dX9_read_30 : decode k_X9_read.2.1 30 = .ok (.aload_n 0, 1) := by decide +kernel
theorem dX9_read_31 : decode k_X9_read.2.1 31 = .ok (.getfield 12, 3) := by decide +kernel
theorem dX9_read_34 : decode k_X9_read.2.1 34 = .ok (.aload_n 0, 1) := by decide +kernel
theorem dX9_read_35 : decode k_X9_read.2.1 35 = .ok (.getfield 60, 3) := by decide +kernel
theorem dX9_read_38 : decode k_X9_read.2.1 38 = .ok (.invokevirtual 365, 3) := by decide +kernel
theorem dX9_read_41 : decode k_X9_read.2.1 41 = .ok (.aload_n 0, 1) := by decide +kernel
theorem dX9_read_42 : decode k_X9_read.2.1 42 = .ok (.iconst 1, 1) := by decide +kernel
theorem dX9_read_43 : decode k_X9_read.2.1 43 = .ok (.putfield 71, 3) := by decide +kernel
theorem dX9_read_46 : decode k_X9_read.2.1 46 = .ok (.return_, 1) := by decide +kernel
theorem dX9_letterCount_0 : decode k_X9_letterCount.2.1 0 = .ok (.aload_n 0, 1) := by decide +kernel
theorem dX9_letterCount_1 : decode k_X9_letterCount.2.1 1 = .ok (.invokevirtual 144, 3) := by decide +kernel
theorem dX9_letterCount_4 : decode k_X9_letterCount.2.1 4 = .ok (.aload_n 0, 1) := by decide +kernel
theorem dX9_letterCount_5 : decode k_X9_letterCount.2.1 5 = .ok (.getfield 67, 3) := by decide +kernel
theorem dX9_letterCount_8 : decode k_X9_letterCount.2.1 8 = .ok (.invokevirtual 207, 3) := by decide +kernel
theorem dX9_letterCount_11 : decode k_X9_letterCount.2.1 11 = .ok (.ireturn, 1) := by decide +kernel
theorem dX9_isStretch_0 : decode k_X9_isStretch.2.1 0 = .ok (.aload_n 0, 1) := by decide +kernel
theorem dX9_isStretch_1 : decode k_X9_isStretch.2.1 1 = .ok (.invokevirtual 144, 3) := by decide +kernel
theorem dX9_isStretch_4 : decode k_X9_isStretch.2.1 4 = .ok (.iload_n 1, 1) := by decide +kernel
theorem dX9_isStretch_5 : decode k_X9_isStretch.2.1 5 = .ok (.ifCond .lt 31, 3) := by decide +kernel
theorem dX9_isStretch_8 : decode k_X9_isStretch.2.1 8 = .ok (.iload_n 1, 1) := by decide +kernel
theorem dX9_isStretch_9 : decode k_X9_isStretch.2.1 9 = .ok (.aload_n 0, 1) := by decide +kernel
theorem dX9_isStretch_10 : decode k_X9_isStretch.2.1 10 = .ok (.getfield 67, 3) := by decide +kernel
theorem dX9_isStretch_13 : decode k_X9_isStretch.2.1 13 = .ok (.invokevirtual 207, 3) := by decide +kernel
theorem dX9_isStretch_16 : decode k_X9_isStretch.2.1 16 = .ok (.if_icmp .gt 20, 3) := by decide +kernel
theorem dX9_isStretch_19 : decode k_X9_isStretch.2.1 19 = .ok (.iload_n 2, 1) := by decide +kernel
theorem dX9_isStretch_20 : decode k_X9_isStretch.2.1 20 = .ok (.aload_n 0, 1) := by decide +kernel
theorem dX9_isStretch_21 : decode k_X9_isStretch.2.1 21 = .ok (.getfield 67, 3) := by decide +kernel
theorem dX9_isStretch_24 : decode k_X9_isStretch.2.1 24 = .ok (.invokevirtual 207, 3) := by decide +kernel
theorem dX9_isStretch_27 : decode k_X9_isStretch.2.1 27 = .ok (.iload_n 1, 1) := by decide +kernel
theorem dX9_isStretch_28 : decode k_X9_isStretch.2.1 28 = .ok (.isub, 1) := by decide +kernel
theorem dX9_isStretch_29 : decode k_X9_isStretch.2.1 29 = .ok (.if_icmp .gt 7, 3) := by decide +kernel
theorem dX9_isStretch_32 : decode k_X9_isStretch.2.1 32 = .ok (.iconst 1, 1) := by decide +kernel
theorem dX9_isStretch_33 : decode k_X9_isStretch.2.1 33 = .ok (.goto 4, 3) := by decide +kernel
theorem dX9_isStretch_36 : decode k_X9_isStretch.2.1 36 = .ok (.iconst 0, 1) := by decide +kernel
theorem dX9_isStretch_37 : decode k_X9_isStretch.2.1 37 = .ok (.ireturn, 1) := by decide +kernel
theorem dX9_feedOne_0 : decode k_X9_feedOne.2.1 0 = .ok (.bipush 24, 2) := by decide +kernel
theorem dX9_feedOne_2 : decode k_X9_feedOne.2.1 2 = .ok (.istore_n 2, 1) := by decide +kernel
theorem dX9_feedOne_3 : decode k_X9_feedOne.2.1 3 = .ok (.iload_n 2, 1) := by decide +kernel
theorem dX9_feedOne_4 : decode k_X9_feedOne.2.1 4 = .ok (.ifCond .lt 23, 3) := by decide +kernel
theorem dX9_feedOne_7 : decode k_X9_feedOne.2.1 7 = .ok (.aload_n 0, 1) := by decide +kernel
theorem dX9_feedOne_8 : decode k_X9_feedOne.2.1 8 = .ok (.getfield 36, 3) := by decide +kernel
theorem dX9_feedOne_11 : decode k_X9_feedOne.2.1 11 = .ok (.iload_n 1, 1) := by decide +kernel
theorem dX9_feedOne_12 : decode k_X9_feedOne.2.1 12 = .ok (.iload_n 2, 1) := by decide +kernel
theorem dX9_feedOne_13 : decode k_X9_feedOne.2.1 13 = .ok (.iushr, 1) := by decide +kernel
theorem dX9_feedOne_14 : decode k_X9_feedOne.2.1 14 = .ok (.sipush 255, 3) := by decide +kernel
theorem dX9_feedOne_17 : decode k_X9_feedOne.2.1 17 = .ok (.iand, 1) := by decide +kernel
theorem dX9_feedOne_18 : decode k_X9_feedOne.2.1 18 = .ok (.invokevirtual 211, 3) := by decide +kernel
theorem dX9_feedOne_21 : decode k_X9_feedOne.2.1 21 = .ok (.iinc 2 (-8), 3) := by decide +kernel
theorem dX9_feedOne_24 : decode k_X9_feedOne.2.1 24 = .ok (.goto (-21), 3) := by decide +kernel
theorem dX9_feedOne_27 : decode k_X9_feedOne.2.1 27 = .ok (.return_, 1) := by decide +kernel
theorem dX9_isOnTape_0 : decode k_X9_isOnTape.2.1 0 = .ok (.iload_n 1, 1) := by decide +kernel
theorem dX9_isOnTape_1 : decode k_X9_isOnTape.2.1 1 = .ok (.ifCond .lt 18, 3) := by decide +kernel
theorem dX9_isOnTape_4 : decode k_X9_isOnTape.2.1 4 = .ok (.iload_n 1, 1) := by decide +kernel
theorem dX9_isOnTape_5 : decode k_X9_isOnTape.2.1 5 = .ok (.aload_n 0, 1) := by decide +kernel
theorem dX9_isOnTape_6 : decode k_X9_isOnTape.2.1 6 = .ok (.getfield 36, 3) := by decide +kernel
theorem dX9_isOnTape_9 : decode k_X9_isOnTape.2.1 9 = .ok (.invokevirtual 105, 3) := by decide +kernel
theorem dX9_isOnTape_12 : decode k_X9_isOnTape.2.1 12 = .ok (.if_icmp .gt 7, 3) := by decide +kernel
theorem dX9_isOnTape_15 : decode k_X9_isOnTape.2.1 15 = .ok (.iconst 1, 1) := by decide +kernel
theorem dX9_isOnTape_16 : decode k_X9_isOnTape.2.1 16 = .ok (.goto 4, 3) := by decide +kernel
theorem dX9_isOnTape_19 : decode k_X9_isOnTape.2.1 19 = .ok (.iconst 0, 1) := by decide +kernel
theorem dX9_isOnTape_20 : decode k_X9_isOnTape.2.1 20 = .ok (.ireturn, 1) := by decide +kernel
theorem dX9_firstNoLetter_0 : decode k_X9_firstNoLetter.2.1 0 = .ok (.iconst 0, 1) := by decide +kernel
theorem dX9_firstNoLetter_1 : decode k_X9_firstNoLetter.2.1 1 = .ok (.istore_n 2, 1) := by decide +kernel
theorem dX9_firstNoLetter_2 : decode k_X9_firstNoLetter.2.1 2 = .ok (.iload_n 2, 1) := by decide +kernel
theorem dX9_firstNoLetter_3 : decode k_X9_firstNoLetter.2.1 3 = .ok (.iload_n 1, 1) := by decide +kernel
theorem dX9_firstNoLetter_4 : decode k_X9_firstNoLetter.2.1 4 = .ok (.if_icmp .ge 28, 3) := by decide +kernel
theorem dX9_firstNoLetter_7 : decode k_X9_firstNoLetter.2.1 7 = .ok (.aload_n 0, 1) := by decide +kernel
theorem dX9_firstNoLetter_8 : decode k_X9_firstNoLetter.2.1 8 = .ok (.getfield 36, 3) := by decide +kernel
theorem dX9_firstNoLetter_11 : decode k_X9_firstNoLetter.2.1 11 = .ok (.iload_n 2, 1) := by decide +kernel
theorem dX9_firstNoLetter_12 : decode k_X9_firstNoLetter.2.1 12 = .ok (.invokevirtual 237, 3) := by decide +kernel
theorem dX9_firstNoLetter_15 : decode k_X9_firstNoLetter.2.1 15 = .ok (.bipush 97, 2) := by decide +kernel
theorem dX9_firstNoLetter_17 : decode k_X9_firstNoLetter.2.1 17 = .ok (.isub, 1) := by decide +kernel
theorem dX9_firstNoLetter_18 : decode k_X9_firstNoLetter.2.1 18 = .ok (.invokestatic 214, 3) := by decide +kernel
theorem dX9_firstNoLetter_21 : decode k_X9_firstNoLetter.2.1 21 = .ok (.ifCond .ne 5, 3) := by decide +kernel
theorem dX9_firstNoLetter_24 : decode k_X9_firstNoLetter.2.1 24 = .ok (.iload_n 2, 1) := by decide +kernel
theorem dX9_firstNoLetter_25 : decode k_X9_firstNoLetter.2.1 25 = .ok (.ireturn, 1) := by decide +kernel
theorem dX9_firstNoLetter_26 : decode k_X9_firstNoLetter.2.1 26 = .ok (.iinc 2 1, 3) := by decide +kernel
theorem dX9_firstNoLetter_29 : decode k_X9_firstNoLetter.2.1 29 = .ok (.goto (-27), 3) := by decide +kernel
theorem dX9_firstNoLetter_32 : decode k_X9_firstNoLetter.2.1 32 = .ok (.iconst (-1), 1) := by decide +kernel
theorem dX9_firstNoLetter_33 : decode k_X9_firstNoLetter.2.1 33 = .ok (.ireturn, 1) := by decide +kernel
theorem dX9_takeLetters_0 : decode k_X9_takeLetters.2.1 0 = .ok (.iconst 0, 1) := by decide +kernel
theorem dX9_takeLetters_1 : decode k_X9_takeLetters.2.1 1 = .ok (.istore_n 3, 1) := by decide +kernel
theorem dX9_takeLetters_2 : decode k_X9_takeLetters.2.1 2 = .ok (.iload_n 3, 1) := by decide +kernel
theorem dX9_takeLetters_3 : decode k_X9_takeLetters.2.1 3 = .ok (.iload_n 1, 1) := by decide +kernel
theorem dX9_takeLetters_4 : decode k_X9_takeLetters.2.1 4 = .ok (.if_icmp .ge 24, 3) := by decide +kernel
theorem dX9_takeLetters_7 : decode k_X9_takeLetters.2.1 7 = .ok (.aload_n 2, 1) := by decide +kernel
theorem dX9_takeLetters_8 : decode k_X9_takeLetters.2.1 8 = .ok (.aload_n 0, 1) := by decide +kernel
theorem dX9_takeLetters_9 : decode k_X9_takeLetters.2.1 9 = .ok (.getfield 36, 3) := by decide +kernel
theorem dX9_takeLetters_12 : decode k_X9_takeLetters.2.1 12 = .ok (.iload_n 3, 1) := by decide +kernel
theorem dX9_takeLetters_13 : decode k_X9_takeLetters.2.1 13 = .ok (.invokevirtual 237, 3) := by decide +kernel
theorem dX9_takeLetters_16 : decode k_X9_takeLetters.2.1 16 = .ok (.bipush 97, 2) := by decide +kernel
theorem dX9_takeLetters_18 : decode k_X9_takeLetters.2.1 18 = .ok (.isub, 1) := by decide +kernel
theorem dX9_takeLetters_19 : decode k_X9_takeLetters.2.1 19 = .ok (.invokevirtual 211, 3) := by decide +kernel
theorem dX9_takeLetters_22 : decode k_X9_takeLetters.2.1 22 = .ok (.iinc 3 1, 3) := by decide +kernel
theorem dX9_takeLetters_25 : decode k_X9_takeLetters.2.1 25 = .ok (.goto (-23), 3) := by decide +kernel
theorem dX9_takeLetters_28 : decode k_X9_takeLetters.2.1 28 = .ok (.return_, 1) := by decide +kernel
theorem dX9_endTape_0 : decode k_X9_endTape.2.1 0 = .ok (.aload_n 0, 1) := by decide +kernel
theorem dX9_endTape_1 : decode k_X9_endTape.2.1 1 = .ok (.getfield 36, 3) := by decide +kernel
theorem dX9_endTape_4 : decode k_X9_endTape.2.1 4 = .ok (.invokevirtual 143, 3) := by decide +kernel
theorem dX9_endTape_7 : decode k_X9_endTape.2.1 7 = .ok (.aload_n 0, 1) := by decide +kernel
theorem dX9_endTape_8 : decode k_X9_endTape.2.1 8 = .ok (.iload_n 1, 1) := by decide +kernel
theorem dX9_endTape_9 : decode k_X9_endTape.2.1 9 = .ok (.putfield 50, 3) := by decide +kernel
theorem dX9_endTape_12 : decode k_X9_endTape.2.1 12 = .ok (.aload_n 0, 1) := by decide +kernel
theorem dX9_endTape_13 : decode k_X9_endTape.2.1 13 = .ok (.iload_n 2, 1) := by decide +kernel
theorem dX9_endTape_14 : decode k_X9_endTape.2.1 14 = .ok (.putfield 54, 3) := by decide +kernel
theorem dX9_endTape_17 : decode k_X9_endTape.2.1 17 = .ok (.return_, 1) := by decide +kernel
theorem dX9_refuseTape_0 : decode k_X9_refuseTape.2.1 0 = .ok (.aload_n 0, 1) := by decide +kernel
theorem dX9_refuseTape_1 : decode k_X9_refuseTape.2.1 1 = .ok (.iload_n 1, 1) := by decide +kernel
theorem dX9_refuseTape_2 : decode k_X9_refuseTape.2.1 2 = .ok (.iload_n 2, 1) := by decide +kernel
theorem dX9_refuseTape_3 : decode k_X9_refuseTape.2.1 3 = .ok (.invokevirtual 116, 3) := by decide +kernel
theorem dX9_refuseTape_6 : decode k_X9_refuseTape.2.1 6 = .ok (.bipush (-30), 2) := by decide +kernel
theorem dX9_refuseTape_8 : decode k_X9_refuseTape.2.1 8 = .ok (.iload_n 1, 1) := by decide +kernel
theorem dX9_refuseTape_9 : decode k_X9_refuseTape.2.1 9 = .ok (.isub, 1) := by decide +kernel
theorem dX9_refuseTape_10 : decode k_X9_refuseTape.2.1 10 = .ok (.ireturn, 1) := by decide +kernel
theorem dX9_join_0 : decode k_X9_join.2.1 0 = .ok (.aload_n 0, 1) := by decide +kernel
theorem dX9_join_1 : decode k_X9_join.2.1 1 = .ok (.getfield 12, 3) := by decide +kernel
theorem dX9_join_4 : decode k_X9_join.2.1 4 = .ok (.iload_n 1, 1) := by decide +kernel
theorem dX9_join_5 : decode k_X9_join.2.1 5 = .ok (.iload_n 2, 1) := by decide +kernel
theorem dX9_join_6 : decode k_X9_join.2.1 6 = .ok (.invokevirtual 369, 3) := by decide +kernel
theorem dX9_join_9 : decode k_X9_join.2.1 9 = .ok (.iconst (-1), 1) := by decide +kernel
theorem dX9_join_10 : decode k_X9_join.2.1 10 = .ok (.if_icmp .ne 6, 3) := by decide +kernel
theorem dX9_join_13 : decode k_X9_join.2.1 13 = .ok (.bipush (-4), 2) := by decide +kernel
theorem dX9_join_15 : decode k_X9_join.2.1 15 = .ok (.ireturn, 1) := by decide +kernel
theorem dX9_join_16 : decode k_X9_join.2.1 16 = .ok (.aload_n 0, 1) := by decide +kernel
theorem dX9_join_17 : decode k_X9_join.2.1 17 = .ok (.getfield 19, 3) := by decide +kernel
theorem dX9_join_20 : decode k_X9_join.2.1 20 = .ok (.aload_n 0, 1) := by decide +kernel
theorem dX9_join_21 : decode k_X9_join.2.1 21 = .ok (.getfield 12, 3) := by decide +kernel
theorem dX9_join_24 : decode k_X9_join.2.1 24 = .ok (.invokevirtual 128, 3) := by decide +kernel
theorem dX9_join_27 : decode k_X9_join.2.1 27 = .ok (.aload_n 0, 1) := by decide +kernel
theorem dX9_join_28 : decode k_X9_join.2.1 28 = .ok (.iconst 0, 1) := by decide +kernel
theorem dX9_join_29 : decode k_X9_join.2.1 29 = .ok (.putfield 71, 3) := by decide +kernel
theorem dX9_join_32 : decode k_X9_join.2.1 32 = .ok (.aload_n 0, 1) := by decide +kernel
theorem dX9_join_33 : decode k_X9_join.2.1 33 = .ok (.getfield 12, 3) := by decide +kernel
theorem dX9_join_36 : decode k_X9_join.2.1 36 = .ok (.iload_n 1, 1) := by decide +kernel
theorem dX9_join_37 : decode k_X9_join.2.1 37 = .ok (.iload_n 2, 1) := by decide +kernel
theorem dX9_join_38 : decode k_X9_join.2.1 38 = .ok (.invokevirtual 372, 3) := by decide +kernel
theorem dX9_join_41 : decode k_X9_join.2.1 41 = .ok (.ireturn, 1) := by decide +kernel
theorem dX9_packBest_0 : decode k_X9_packBest.2.1 0 = .ok (.aload_n 0, 1) := by decide +kernel
theorem dX9_packBest_1 : decode k_X9_packBest.2.1 1 = .ok (.getfield 84, 3) := by decide +kernel
theorem dX9_packBest_4 : decode k_X9_packBest.2.1 4 = .ok (.aload_n 0, 1) := by decide +kernel
theorem dX9_packBest_5 : decode k_X9_packBest.2.1 5 = .ok (.getfield 12, 3) := by decide +kernel
theorem dX9_packBest_8 : decode k_X9_packBest.2.1 8 = .ok (.invokevirtual 135, 3) := by decide +kernel
theorem dX9_packBest_11 : decode k_X9_packBest.2.1 11 = .ok (.invokevirtual 168, 3) := by decide +kernel
theorem dX9_packBest_14 : decode k_X9_packBest.2.1 14 = .ok (.aload_n 0, 1) := by decide +kernel
theorem dX9_packBest_15 : decode k_X9_packBest.2.1 15 = .ok (.getfield 84, 3) := by decide +kernel
theorem dX9_packBest_18 : decode k_X9_packBest.2.1 18 = .ok (.iconst 0, 1) := by decide +kernel
theorem dX9_packBest_19 : decode k_X9_packBest.2.1 19 = .ok (.invokevirtual 172, 3) := by decide +kernel
theorem dX9_packBest_22 : decode k_X9_packBest.2.1 22 = .ok (.istore_n 1, 1) := by decide +kernel
theorem dX9_packBest_23 : decode k_X9_packBest.2.1 23 = .ok (.iload_n 1, 1) := by decide +kernel
theorem dX9_packBest_24 : decode k_X9_packBest.2.1 24 = .ok (.iconst (-1), 1) := by decide +kernel
theorem dX9_packBest_25 : decode k_X9_packBest.2.1 25 = .ok (.if_icmp .eq 26, 3) := by decide +kernel
theorem dX9_packBest_28 : decode k_X9_packBest.2.1 28 = .ok (.aload_n 0, 1) := by decide +kernel
theorem dX9_packBest_29 : decode k_X9_packBest.2.1 29 = .ok (.getfield 12, 3) := by decide +kernel
theorem dX9_packBest_32 : decode k_X9_packBest.2.1 32 = .ok (.iload_n 1, 1) := by decide +kernel
theorem dX9_packBest_33 : decode k_X9_packBest.2.1 33 = .ok (.invokestatic 175, 3) := by decide +kernel
theorem dX9_packBest_36 : decode k_X9_packBest.2.1 36 = .ok (.iload_n 1, 1) := by decide +kernel
theorem dX9_packBest_37 : decode k_X9_packBest.2.1 37 = .ok (.invokestatic 178, 3) := by decide +kernel
theorem dX9_packBest_40 : decode k_X9_packBest.2.1 40 = .ok (.invokevirtual 372, 3) := by decide +kernel
theorem dX9_packBest_43 : decode k_X9_packBest.2.1 43 = .ok (.iconst (-1), 1) := by decide +kernel
theorem dX9_packBest_44 : decode k_X9_packBest.2.1 44 = .ok (.if_icmp .eq 7, 3) := by decide +kernel
theorem dX9_packBest_47 : decode k_X9_packBest.2.1 47 = .ok (.iconst 1, 1) := by decide +kernel
theorem dX9_packBest_48 : decode k_X9_packBest.2.1 48 = .ok (.goto 4, 3) := by decide +kernel
theorem dX9_packBest_51 : decode k_X9_packBest.2.1 51 = .ok (.iconst 0, 1) := by decide +kernel
theorem dX9_packBest_52 : decode k_X9_packBest.2.1 52 = .ok (.ireturn, 1) := by decide +kernel
theorem dX9_rowSign_0 : decode k_X9_rowSign.2.1 0 = .ok (.iload_n 2, 1) := by decide +kernel
theorem dX9_rowSign_1 : decode k_X9_rowSign.2.1 1 = .ok (.bipush 10, 2) := by decide +kernel
theorem dX9_rowSign_3 : decode k_X9_rowSign.2.1 3 = .ok (.if_icmp .lt 9, 3) := by decide +kernel
theorem dX9_rowSign_6 : decode k_X9_rowSign.2.1 6 = .ok (.iload_n 2, 1) := by decide +kernel
theorem dX9_rowSign_7 : decode k_X9_rowSign.2.1 7 = .ok (.bipush 22, 2) := by decide +kernel
theorem dX9_rowSign_9 : decode k_X9_rowSign.2.1 9 = .ok (.if_icmp .lt 6, 3) := by decide +kernel
theorem dX9_rowSign_12 : decode k_X9_rowSign.2.1 12 = .ok (.bipush (-2), 2) := by decide +kernel
theorem dX9_rowSign_14 : decode k_X9_rowSign.2.1 14 = .ok (.ireturn, 1) := by decide +kernel
theorem dX9_rowSign_15 : decode k_X9_rowSign.2.1 15 = .ok (.aload_n 0, 1) := by decide +kernel
theorem dX9_rowSign_16 : decode k_X9_rowSign.2.1 16 = .ok (.getfield 12, 3) := by decide +kernel
theorem dX9_rowSign_19 : decode k_X9_rowSign.2.1 19 = .ok (.iload_n 1, 1) := by decide +kernel
theorem dX9_rowSign_20 : decode k_X9_rowSign.2.1 20 = .ok (.invokevirtual 240, 3) := by decide +kernel
theorem dX9_rowSign_23 : decode k_X9_rowSign.2.1 23 = .ok (.iload_n 2, 1) := by decide +kernel
theorem dX9_rowSign_24 : decode k_X9_rowSign.2.1 24 = .ok (.bipush 10, 2) := by decide +kernel
theorem dX9_rowSign_26 : decode k_X9_rowSign.2.1 26 = .ok (.isub, 1) := by decide +kernel
theorem dX9_rowSign_27 : decode k_X9_rowSign.2.1 27 = .ok (.invokevirtual 237, 3) := by decide +kernel
theorem dX9_rowSign_30 : decode k_X9_rowSign.2.1 30 = .ok (.ireturn, 1) := by decide +kernel
theorem dX9_hitsWithin_0 : decode k_X9_hitsWithin.2.1 0 = .ok (.aload_n 0, 1) := by decide +kernel
theorem dX9_hitsWithin_1 : decode k_X9_hitsWithin.2.1 1 = .ok (.getfield 75, 3) := by decide +kernel
theorem dX9_hitsWithin_4 : decode k_X9_hitsWithin.2.1 4 = .ok (.invokevirtual 143, 3) := by decide +kernel
theorem dX9_hitsWithin_7 : decode k_X9_hitsWithin.2.1 7 = .ok (.aload_n 0, 1) := by decide +kernel
theorem dX9_hitsWithin_8 : decode k_X9_hitsWithin.2.1 8 = .ok (.getfield 75, 3) := by decide +kernel
theorem dX9_hitsWithin_11 : decode k_X9_hitsWithin.2.1 11 = .ok (.iload_n 1, 1) := by decide +kernel
theorem dX9_hitsWithin_12 : decode k_X9_hitsWithin.2.1 12 = .ok (.invokevirtual 211, 3) := by decide +kernel
theorem dX9_hitsWithin_15 : decode k_X9_hitsWithin.2.1 15 = .ok (.aload_n 0, 1) := by decide +kernel
theorem dX9_hitsWithin_16 : decode k_X9_hitsWithin.2.1 16 = .ok (.getfield 78, 3) := by decide +kernel
theorem dX9_hitsWithin_19 : decode k_X9_hitsWithin.2.1 19 = .ok (.aload_n 0, 1) := by decide +kernel
theorem dX9_hitsWithin_20 : decode k_X9_hitsWithin.2.1 20 = .ok (.getfield 75, 3) := by decide +kernel
theorem dX9_hitsWithin_23 : decode k_X9_hitsWithin.2.1 23 = .ok (.aload_n 0, 1) := by decide +kernel
theorem dX9_hitsWithin_24 : decode k_X9_hitsWithin.2.1 24 = .ok (.getfield 12, 3) := by decide +kernel
theorem dX9_hitsWithin_27 : decode k_X9_hitsWithin.2.1 27 = .ok (.aload_n 0, 1) := by decide +kernel
theorem dX9_hitsWithin_28 : decode k_X9_hitsWithin.2.1 28 = .ok (.getfield 60, 3) := by decide +kernel
theorem dX9_hitsWithin_31 : decode k_X9_hitsWithin.2.1 31 = .ok (.invokevirtual 365, 3) := by decide +kernel
theorem dX9_hitsWithin_34 : decode k_X9_hitsWithin.2.1 34 = .ok (.aload_n 0, 1) := by decide +kernel
theorem dX9_hitsWithin_35 : decode k_X9_hitsWithin.2.1 35 = .ok (.getfield 78, 3) := by decide +kernel
theorem dX9_hitsWithin_38 : decode k_X9_hitsWithin.2.1 38 = .ok (.aload_n 0, 1) := by decide +kernel
theorem dX9_hitsWithin_39 : decode k_X9_hitsWithin.2.1 39 = .ok (.getfield 40, 3) := by decide +kernel
theorem dX9_hitsWithin_42 : decode k_X9_hitsWithin.2.1 42 = .ok (.invokevirtual 147, 3) := by decide +kernel
theorem dX9_hitsWithin_45 : decode k_X9_hitsWithin.2.1 45 = .ok (.ireturn, 1) := by decide +kernel
theorem dX9_greatestDepth_0 : decode k_X9_greatestDepth.2.1 0 = .ok (.iconst 0, 1) := by decide +kernel
theorem dX9_greatestDepth_1 : decode k_X9_greatestDepth.2.1 1 = .ok (.istore_n 1, 1) := by decide +kernel
theorem dX9_greatestDepth_2 : decode k_X9_greatestDepth.2.1 2 = .ok (.iconst 0, 1) := by decide +kernel
theorem dX9_greatestDepth_3 : decode k_X9_greatestDepth.2.1 3 = .ok (.istore_n 2, 1) := by decide +kernel
theorem dX9_greatestDepth_4 : decode k_X9_greatestDepth.2.1 4 = .ok (.iload_n 2, 1) := by decide +kernel
theorem dX9_greatestDepth_5 : decode k_X9_greatestDepth.2.1 5 = .ok (.aload_n 0, 1) := by decide +kernel
theorem dX9_greatestDepth_6 : decode k_X9_greatestDepth.2.1 6 = .ok (.getfield 12, 3) := by decide +kernel
theorem dX9_greatestDepth_9 : decode k_X9_greatestDepth.2.1 9 = .ok (.invokevirtual 135, 3) := by decide +kernel
theorem dX9_greatestDepth_12 : decode k_X9_greatestDepth.2.1 12 = .ok (.invokevirtual 105, 3) := by decide +kernel
theorem dX9_greatestDepth_15 : decode k_X9_greatestDepth.2.1 15 = .ok (.if_icmp .ge 32, 3) := by decide +kernel
theorem dX9_greatestDepth_18 : decode k_X9_greatestDepth.2.1 18 = .ok (.iload_n 1, 1) := by decide +kernel
theorem dX9_greatestDepth_19 : decode k_X9_greatestDepth.2.1 19 = .ok (.aload_n 0, 1) := by decide +kernel
theorem dX9_greatestDepth_20 : decode k_X9_greatestDepth.2.1 20 = .ok (.getfield 60, 3) := by decide +kernel
theorem dX9_greatestDepth_23 : decode k_X9_greatestDepth.2.1 23 = .ok (.aload_n 0, 1) := by decide +kernel
theorem dX9_greatestDepth_24 : decode k_X9_greatestDepth.2.1 24 = .ok (.getfield 12, 3) := by decide +kernel
theorem dX9_greatestDepth_27 : decode k_X9_greatestDepth.2.1 27 = .ok (.invokevirtual 135, 3) := by decide +kernel
theorem dX9_greatestDepth_30 : decode k_X9_greatestDepth.2.1 30 = .ok (.iload_n 2, 1) := by decide +kernel
theorem dX9_greatestDepth_31 : decode k_X9_greatestDepth.2.1 31 = .ok (.invokevirtual 237, 3) := by decide +kernel
theorem dX9_greatestDepth_34 : decode k_X9_greatestDepth.2.1 34 = .ok (.invokevirtual 247, 3) := by decide +kernel
theorem dX9_greatestDepth_37 : decode k_X9_greatestDepth.2.1 37 = .ok (.invokestatic 375, 3) := by decide +kernel
theorem dX9_greatestDepth_40 : decode k_X9_greatestDepth.2.1 40 = .ok (.istore_n 1, 1) := by decide +kernel
theorem dX9_greatestDepth_41 : decode k_X9_greatestDepth.2.1 41 = .ok (.iinc 2 1, 3) := by decide +kernel
theorem dX9_greatestDepth_44 : decode k_X9_greatestDepth.2.1 44 = .ok (.goto (-40), 3) := by decide +kernel
theorem dX9_greatestDepth_47 : decode k_X9_greatestDepth.2.1 47 = .ok (.iload_n 1, 1) := by decide +kernel
theorem dX9_greatestDepth_48 : decode k_X9_greatestDepth.2.1 48 = .ok (.ireturn, 1) := by decide +kernel
theorem dX9_perLetter_0 : decode k_X9_perLetter.2.1 0 = .ok (.aload_n 0, 1) := by decide +kernel
theorem dX9_perLetter_1 : decode k_X9_perLetter.2.1 1 = .ok (.getfield 67, 3) := by decide +kernel
theorem dX9_perLetter_4 : decode k_X9_perLetter.2.1 4 = .ok (.invokevirtual 207, 3) := by decide +kernel
theorem dX9_perLetter_7 : decode k_X9_perLetter.2.1 7 = .ok (.ifCond .ne 7, 3) := by decide +kernel
theorem dX9_perLetter_10 : decode k_X9_perLetter.2.1 10 = .ok (.fconst 0, 1) := by decide +kernel
theorem dX9_perLetter_11 : decode k_X9_perLetter.2.1 11 = .ok (.goto 14, 3) := by decide +kernel
theorem dX9_perLetter_14 : decode k_X9_perLetter.2.1 14 = .ok (.iload_n 1, 1) := by decide +kernel
theorem dX9_perLetter_15 : decode k_X9_perLetter.2.1 15 = .ok (.i2f, 1) := by decide +kernel
theorem dX9_perLetter_16 : decode k_X9_perLetter.2.1 16 = .ok (.aload_n 0, 1) := by decide +kernel
theorem dX9_perLetter_17 : decode k_X9_perLetter.2.1 17 = .ok (.getfield 67, 3) := by decide +kernel
theorem dX9_perLetter_20 : decode k_X9_perLetter.2.1 20 = .ok (.invokevirtual 207, 3) := by decide +kernel
theorem dX9_perLetter_23 : decode k_X9_perLetter.2.1 23 = .ok (.i2f, 1) := by decide +kernel
theorem dX9_perLetter_24 : decode k_X9_perLetter.2.1 24 = .ok (.fdiv, 1) := by decide +kernel
theorem dX9_perLetter_25 : decode k_X9_perLetter.2.1 25 = .ok (.freturn, 1) := by decide +kernel
theorem dX9_foldedLengths_0 : decode k_X9_foldedLengths.2.1 0 = .ok (.fconst 0, 1) := by decide +kernel
theorem dX9_foldedLengths_1 : decode k_X9_foldedLengths.2.1 1 = .ok (.fstore_n 1, 1) := by decide +kernel
theorem dX9_foldedLengths_2 : decode k_X9_foldedLengths.2.1 2 = .ok (.iconst 0, 1) := by decide +kernel
theorem dX9_foldedLengths_3 : decode k_X9_foldedLengths.2.1 3 = .ok (.istore_n 2, 1) := by decide +kernel
theorem dX9_foldedLengths_4 : decode k_X9_foldedLengths.2.1 4 = .ok (.iload_n 2, 1) := by decide +kernel
theorem dX9_foldedLengths_5 : decode k_X9_foldedLengths.2.1 5 = .ok (.aload_n 0, 1) := by decide +kernel
theorem dX9_foldedLengths_6 : decode k_X9_foldedLengths.2.1 6 = .ok (.getfield 12, 3) := by decide +kernel
theorem dX9_foldedLengths_9 : decode k_X9_foldedLengths.2.1 9 = .ok (.invokevirtual 135, 3) := by decide +kernel
theorem dX9_foldedLengths_12 : decode k_X9_foldedLengths.2.1 12 = .ok (.invokevirtual 105, 3) := by decide +kernel
theorem dX9_foldedLengths_15 : decode k_X9_foldedLengths.2.1 15 = .ok (.if_icmp .ge 41, 3) := by decide +kernel
theorem dX9_foldedLengths_18 : decode k_X9_foldedLengths.2.1 18 = .ok (.aload_n 0, 1) := by decide +kernel
theorem dX9_foldedLengths_19 : decode k_X9_foldedLengths.2.1 19 = .ok (.getfield 60, 3) := by decide +kernel
theorem dX9_foldedLengths_22 : decode k_X9_foldedLengths.2.1 22 = .ok (.aload_n 0, 1) := by decide +kernel
theorem dX9_foldedLengths_23 : decode k_X9_foldedLengths.2.1 23 = .ok (.getfield 12, 3) := by decide +kernel
theorem dX9_foldedLengths_26 : decode k_X9_foldedLengths.2.1 26 = .ok (.invokevirtual 135, 3) := by decide +kernel
theorem dX9_foldedLengths_29 : decode k_X9_foldedLengths.2.1 29 = .ok (.iload_n 2, 1) := by decide +kernel
theorem dX9_foldedLengths_30 : decode k_X9_foldedLengths.2.1 30 = .ok (.invokevirtual 237, 3) := by decide +kernel
theorem dX9_foldedLengths_33 : decode k_X9_foldedLengths.2.1 33 = .ok (.invokevirtual 244, 3) := by decide +kernel
theorem dX9_foldedLengths_36 : decode k_X9_foldedLengths.2.1 36 = .ok (.i2f, 1) := by decide +kernel
theorem dX9_foldedLengths_37 : decode k_X9_foldedLengths.2.1 37 = .ok (.fstore_n 3, 1) := by decide +kernel
theorem dX9_foldedLengths_38 : decode k_X9_foldedLengths.2.1 38 = .ok (.fload_n 1, 1) := by decide +kernel
theorem dX9_foldedLengths_39 : decode k_X9_foldedLengths.2.1 39 = .ok (.ldc_w 380, 3) := by decide +kernel
theorem dX9_foldedLengths_42 : decode k_X9_foldedLengths.2.1 42 = .ok (.fmul, 1) := by decide +kernel
theorem dX9_foldedLengths_43 : decode k_X9_foldedLengths.2.1 43 = .ok (.fload_n 3, 1) := by decide +kernel
theorem dX9_foldedLengths_44 : decode k_X9_foldedLengths.2.1 44 = .ok (.fadd, 1) := by decide +kernel
theorem dX9_foldedLengths_45 : decode k_X9_foldedLengths.2.1 45 = .ok (.ldc_w 381, 3) := by decide +kernel
theorem dX9_foldedLengths_48 : decode k_X9_foldedLengths.2.1 48 = .ok (.fmul, 1) := by decide +kernel
theorem dX9_foldedLengths_49 : decode k_X9_foldedLengths.2.1 49 = .ok (.fstore_n 1, 1) := by decide +kernel
theorem dX9_foldedLengths_50 : decode k_X9_foldedLengths.2.1 50 = .ok (.iinc 2 1, 3) := by decide +kernel
theorem dX9_foldedLengths_53 : decode k_X9_foldedLengths.2.1 53 = .ok (.goto (-49), 3) := by decide +kernel
theorem dX9_foldedLengths_56 : decode k_X9_foldedLengths.2.1 56 = .ok (.fload_n 1, 1) := by decide +kernel
theorem dX9_foldedLengths_57 : decode k_X9_foldedLengths.2.1 57 = .ok (.freturn, 1) := by decide +kernel
theorem dX9_bitsOf_0 : decode k_X9_bitsOf.2.1 0 = .ok (.fload_n 0, 1) := by decide +kernel
theorem dX9_bitsOf_1 : decode k_X9_bitsOf.2.1 1 = .ok (.fconst 0, 1) := by decide +kernel
theorem dX9_bitsOf_2 : decode k_X9_bitsOf.2.1 2 = .ok (.fcmp .g, 1) := by decide +kernel
theorem dX9_bitsOf_3 : decode k_X9_bitsOf.2.1 3 = .ok (.ifCond .gt 5, 3) := by decide +kernel
theorem dX9_bitsOf_6 : decode k_X9_bitsOf.2.1 6 = .ok (.iconst 0, 1) := by decide +kernel
theorem dX9_bitsOf_7 : decode k_X9_bitsOf.2.1 7 = .ok (.ireturn, 1) := by decide +kernel
theorem dX9_bitsOf_8 : decode k_X9_bitsOf.2.1 8 = .ok (.fload_n 0, 1) := by decide +kernel
theorem dX9_bitsOf_9 : decode k_X9_bitsOf.2.1 9 = .ok (.fstore_n 1, 1) := by decide +kernel
theorem dX9_bitsOf_10 : decode k_X9_bitsOf.2.1 10 = .ok (.bipush 127, 2) := by decide +kernel
theorem dX9_bitsOf_12 : decode k_X9_bitsOf.2.1 12 = .ok (.istore_n 2, 1) := by decide +kernel
theorem dX9_bitsOf_13 : decode k_X9_bitsOf.2.1 13 = .ok (.fload_n 1, 1) := by decide +kernel
theorem dX9_bitsOf_14 : decode k_X9_bitsOf.2.1 14 = .ok (.fconst 2, 1) := by decide +kernel
theorem dX9_bitsOf_15 : decode k_X9_bitsOf.2.1 15 = .ok (.fcmp .l, 1) := by decide +kernel
theorem dX9_bitsOf_16 : decode k_X9_bitsOf.2.1 16 = .ok (.ifCond .lt 22, 3) := by decide +kernel
theorem dX9_bitsOf_19 : decode k_X9_bitsOf.2.1 19 = .ok (.iload_n 2, 1) := by decide +kernel
theorem dX9_bitsOf_20 : decode k_X9_bitsOf.2.1 20 = .ok (.sipush 254, 3) := by decide +kernel
theorem dX9_bitsOf_23 : decode k_X9_bitsOf.2.1 23 = .ok (.if_icmp .ge 15, 3) := by decide +kernel
theorem dX9_bitsOf_26 : decode k_X9_bitsOf.2.1 26 = .ok (.fload_n 1, 1) := by decide +kernel
theorem dX9_bitsOf_27 : decode k_X9_bitsOf.2.1 27 = .ok (.ldc_w 380, 3) := by decide +kernel
theorem dX9_bitsOf_30 : decode k_X9_bitsOf.2.1 30 = .ok (.fmul, 1) := by decide +kernel
theorem dX9_bitsOf_31 : decode k_X9_bitsOf.2.1 31 = .ok (.fstore_n 1, 1) := by decide +kernel
theorem dX9_bitsOf_32 : decode k_X9_bitsOf.2.1 32 = .ok (.iinc 2 1, 3) := by decide +kernel
theorem dX9_bitsOf_35 : decode k_X9_bitsOf.2.1 35 = .ok (.goto (-22), 3) := by decide +kernel
theorem dX9_bitsOf_38 : decode k_X9_bitsOf.2.1 38 = .ok (.fload_n 1, 1) := by decide +kernel
theorem dX9_bitsOf_39 : decode k_X9_bitsOf.2.1 39 = .ok (.fconst 1, 1) := by decide +kernel
theorem dX9_bitsOf_40 : decode k_X9_bitsOf.2.1 40 = .ok (.fcmp .g, 1) := by decide +kernel
theorem dX9_bitsOf_41 : decode k_X9_bitsOf.2.1 41 = .ok (.ifCond .ge 18, 3) := by decide +kernel
theorem dX9_bitsOf_44 : decode k_X9_bitsOf.2.1 44 = .ok (.iload_n 2, 1) := by decide +kernel
theorem dX9_bitsOf_45 : decode k_X9_bitsOf.2.1 45 = .ok (.iconst 1, 1) := by decide +kernel
theorem dX9_bitsOf_46 : decode k_X9_bitsOf.2.1 46 = .ok (.if_icmp .le 13, 3) := by decide +kernel
theorem dX9_bitsOf_49 : decode k_X9_bitsOf.2.1 49 = .ok (.fload_n 1, 1) := by decide +kernel
theorem dX9_bitsOf_50 : decode k_X9_bitsOf.2.1 50 = .ok (.fconst 2, 1) := by decide +kernel
theorem dX9_bitsOf_51 : decode k_X9_bitsOf.2.1 51 = .ok (.fmul, 1) := by decide +kernel
theorem dX9_bitsOf_52 : decode k_X9_bitsOf.2.1 52 = .ok (.fstore_n 1, 1) := by decide +kernel
theorem dX9_bitsOf_53 : decode k_X9_bitsOf.2.1 53 = .ok (.iinc 2 (-1), 3) := by decide +kernel
theorem dX9_bitsOf_56 : decode k_X9_bitsOf.2.1 56 = .ok (.goto (-18), 3) := by decide +kernel
theorem dX9_bitsOf_59 : decode k_X9_bitsOf.2.1 59 = .ok (.iload_n 2, 1) := by decide +kernel
theorem dX9_bitsOf_60 : decode k_X9_bitsOf.2.1 60 = .ok (.bipush 23, 2) := by decide +kernel
theorem dX9_bitsOf_62 : decode k_X9_bitsOf.2.1 62 = .ok (.ishl, 1) := by decide +kernel
theorem dX9_bitsOf_63 : decode k_X9_bitsOf.2.1 63 = .ok (.fload_n 1, 1) := by decide +kernel
theorem dX9_bitsOf_64 : decode k_X9_bitsOf.2.1 64 = .ok (.fconst 1, 1) := by decide +kernel
theorem dX9_bitsOf_65 : decode k_X9_bitsOf.2.1 65 = .ok (.fsub, 1) := by decide +kernel
theorem dX9_bitsOf_66 : decode k_X9_bitsOf.2.1 66 = .ok (.ldc_w 382, 3) := by decide +kernel
theorem dX9_bitsOf_69 : decode k_X9_bitsOf.2.1 69 = .ok (.fmul, 1) := by decide +kernel
theorem dX9_bitsOf_70 : decode k_X9_bitsOf.2.1 70 = .ok (.f2i, 1) := by decide +kernel
theorem dX9_bitsOf_71 : decode k_X9_bitsOf.2.1 71 = .ok (.iadd, 1) := by decide +kernel
theorem dX9_bitsOf_72 : decode k_X9_bitsOf.2.1 72 = .ok (.ireturn, 1) := by decide +kernel
theorem dX9_writeForm_0 : decode k_X9_writeForm.2.1 0 = .ok (.aload_n 0, 1) := by decide +kernel
theorem dX9_writeForm_1 : decode k_X9_writeForm.2.1 1 = .ok (.invokevirtual 144, 3) := by decide +kernel
theorem dX9_writeForm_4 : decode k_X9_writeForm.2.1 4 = .ok (.aload_n 0, 1) := by decide +kernel
theorem dX9_writeForm_5 : decode k_X9_writeForm.2.1 5 = .ok (.getfield 102, 3) := by decide +kernel
theorem dX9_writeForm_8 : decode k_X9_writeForm.2.1 8 = .ok (.invokevirtual 143, 3) := by decide +kernel
theorem dX9_writeForm_11 : decode k_X9_writeForm.2.1 11 = .ok (.aload_n 0, 1) := by decide +kernel
theorem dX9_writeForm_12 : decode k_X9_writeForm.2.1 12 = .ok (.getfield 102, 3) := by decide +kernel
theorem dX9_writeForm_15 : decode k_X9_writeForm.2.1 15 = .ok (.aload_n 0, 1) := by decide +kernel
theorem dX9_writeForm_16 : decode k_X9_writeForm.2.1 16 = .ok (.getfield 60, 3) := by decide +kernel
theorem dX9_writeForm_19 : decode k_X9_writeForm.2.1 19 = .ok (.invokevirtual 383, 3) := by decide +kernel
theorem dX9_writeForm_22 : decode k_X9_writeForm.2.1 22 = .ok (.invokevirtual 211, 3) := by decide +kernel
theorem dX9_writeForm_25 : decode k_X9_writeForm.2.1 25 = .ok (.iconst 0, 1) := by decide +kernel
theorem dX9_writeForm_26 : decode k_X9_writeForm.2.1 26 = .ok (.istore_n 1, 1) := by decide +kernel
theorem dX9_writeForm_27 : decode k_X9_writeForm.2.1 27 = .ok (.iload_n 1, 1) := by decide +kernel
theorem dX9_writeForm_28 : decode k_X9_writeForm.2.1 28 = .ok (.aload_n 0, 1) := by decide +kernel
theorem dX9_writeForm_29 : decode k_X9_writeForm.2.1 29 = .ok (.getfield 60, 3) := by decide +kernel
theorem dX9_writeForm_32 : decode k_X9_writeForm.2.1 32 = .ok (.invokevirtual 383, 3) := by decide +kernel
theorem dX9_writeForm_35 : decode k_X9_writeForm.2.1 35 = .ok (.if_icmp .ge 38, 3) := by decide +kernel
theorem dX9_writeForm_38 : decode k_X9_writeForm.2.1 38 = .ok (.aload_n 0, 1) := by decide +kernel
theorem dX9_writeForm_39 : decode k_X9_writeForm.2.1 39 = .ok (.getfield 60, 3) := by decide +kernel
theorem dX9_writeForm_42 : decode k_X9_writeForm.2.1 42 = .ok (.iload_n 1, 1) := by decide +kernel
theorem dX9_writeForm_43 : decode k_X9_writeForm.2.1 43 = .ok (.invokevirtual 386, 3) := by decide +kernel
theorem dX9_writeForm_46 : decode k_X9_writeForm.2.1 46 = .ok (.istore_n 2, 1) := by decide +kernel
theorem dX9_writeForm_47 : decode k_X9_writeForm.2.1 47 = .ok (.aload_n 0, 1) := by decide +kernel
theorem dX9_writeForm_48 : decode k_X9_writeForm.2.1 48 = .ok (.getfield 102, 3) := by decide +kernel
theorem dX9_writeForm_51 : decode k_X9_writeForm.2.1 51 = .ok (.iload_n 2, 1) := by decide +kernel
theorem dX9_writeForm_52 : decode k_X9_writeForm.2.1 52 = .ok (.invokevirtual 211, 3) := by decide +kernel
theorem dX9_writeForm_55 : decode k_X9_writeForm.2.1 55 = .ok (.aload_n 0, 1) := by decide +kernel
theorem dX9_writeForm_56 : decode k_X9_writeForm.2.1 56 = .ok (.aload_n 0, 1) := by decide +kernel
theorem dX9_writeForm_57 : decode k_X9_writeForm.2.1 57 = .ok (.getfield 12, 3) := by decide +kernel
theorem dX9_writeForm_60 : decode k_X9_writeForm.2.1 60 = .ok (.iload_n 2, 1) := by decide +kernel
theorem dX9_writeForm_61 : decode k_X9_writeForm.2.1 61 = .ok (.invokevirtual 240, 3) := by decide +kernel
theorem dX9_writeForm_64 : decode k_X9_writeForm.2.1 64 = .ok (.invokevirtual 389, 3) := by decide +kernel
theorem dX9_writeForm_67 : decode k_X9_writeForm.2.1 67 = .ok (.iinc 1 1, 3) := by decide +kernel
theorem dX9_writeForm_70 : decode k_X9_writeForm.2.1 70 = .ok (.goto (-43), 3) := by decide +kernel
theorem dX9_writeForm_73 : decode k_X9_writeForm.2.1 73 = .ok (.aload_n 0, 1) := by decide +kernel
theorem dX9_writeForm_74 : decode k_X9_writeForm.2.1 74 = .ok (.aload_n 0, 1) := by decide +kernel
theorem dX9_writeForm_75 : decode k_X9_writeForm.2.1 75 = .ok (.getfield 12, 3) := by decide +kernel
theorem dX9_writeForm_78 : decode k_X9_writeForm.2.1 78 = .ok (.invokevirtual 135, 3) := by decide +kernel
theorem dX9_writeForm_81 : decode k_X9_writeForm.2.1 81 = .ok (.invokevirtual 389, 3) := by decide +kernel
theorem dX9_writeForm_84 : decode k_X9_writeForm.2.1 84 = .ok (.return_, 1) := by decide +kernel
theorem dX9_writeRow_0 : decode k_X9_writeRow.2.1 0 = .ok (.aload_n 0, 1) := by decide +kernel
theorem dX9_writeRow_1 : decode k_X9_writeRow.2.1 1 = .ok (.getfield 102, 3) := by decide +kernel
theorem dX9_writeRow_4 : decode k_X9_writeRow.2.1 4 = .ok (.aload_n 1, 1) := by decide +kernel
theorem dX9_writeRow_5 : decode k_X9_writeRow.2.1 5 = .ok (.invokevirtual 105, 3) := by decide +kernel
theorem dX9_writeRow_8 : decode k_X9_writeRow.2.1 8 = .ok (.invokevirtual 211, 3) := by decide +kernel
theorem dX9_writeRow_11 : decode k_X9_writeRow.2.1 11 = .ok (.iconst 0, 1) := by decide +kernel
theorem dX9_writeRow_12 : decode k_X9_writeRow.2.1 12 = .ok (.istore_n 2, 1) := by decide +kernel
theorem dX9_writeRow_13 : decode k_X9_writeRow.2.1 13 = .ok (.iload_n 2, 1) := by decide +kernel
theorem dX9_writeRow_14 : decode k_X9_writeRow.2.1 14 = .ok (.aload_n 1, 1) := by decide +kernel
theorem dX9_writeRow_15 : decode k_X9_writeRow.2.1 15 = .ok (.invokevirtual 105, 3) := by decide +kernel
theorem dX9_writeRow_18 : decode k_X9_writeRow.2.1 18 = .ok (.if_icmp .ge 21, 3) := by decide +kernel
theorem dX9_writeRow_21 : decode k_X9_writeRow.2.1 21 = .ok (.aload_n 0, 1) := by decide +kernel
theorem dX9_writeRow_22 : decode k_X9_writeRow.2.1 22 = .ok (.getfield 102, 3) := by decide +kernel
theorem dX9_writeRow_25 : decode k_X9_writeRow.2.1 25 = .ok (.aload_n 1, 1) := by decide +kernel
theorem dX9_writeRow_26 : decode k_X9_writeRow.2.1 26 = .ok (.iload_n 2, 1) := by decide +kernel
theorem dX9_writeRow_27 : decode k_X9_writeRow.2.1 27 = .ok (.invokevirtual 237, 3) := by decide +kernel
theorem dX9_writeRow_30 : decode k_X9_writeRow.2.1 30 = .ok (.invokevirtual 211, 3) := by decide +kernel
theorem dX9_writeRow_33 : decode k_X9_writeRow.2.1 33 = .ok (.iinc 2 1, 3) := by decide +kernel
theorem dX9_writeRow_36 : decode k_X9_writeRow.2.1 36 = .ok (.goto (-23), 3) := by decide +kernel
theorem dX9_writeRow_39 : decode k_X9_writeRow.2.1 39 = .ok (.return_, 1) := by decide +kernel
theorem dX10_isIn_0 : decode k_X10_isIn.2.1 0 = .ok (.lload_n 0, 1) := by decide +kernel
theorem dX10_isIn_1 : decode k_X10_isIn.2.1 1 = .ok (.lload_n 2, 1) := by decide +kernel
theorem dX10_isIn_2 : decode k_X10_isIn.2.1 2 = .ok (.lcmp, 1) := by decide +kernel
theorem dX10_isIn_3 : decode k_X10_isIn.2.1 3 = .ok (.ifCond .lt 14, 3) := by decide +kernel
theorem dX10_isIn_6 : decode k_X10_isIn.2.1 6 = .ok (.lload_n 0, 1) := by decide +kernel
theorem dX10_isIn_7 : decode k_X10_isIn.2.1 7 = .ok (.lload 4, 2) := by decide +kernel
theorem dX10_isIn_9 : decode k_X10_isIn.2.1 9 = .ok (.lcmp, 1) := by decide +kernel
theorem dX10_isIn_10 : decode k_X10_isIn.2.1 10 = .ok (.ifCond .gt 7, 3) := by decide +kernel
theorem dX10_isIn_13 : decode k_X10_isIn.2.1 13 = .ok (.iconst 1, 1) := by decide +kernel
theorem dX10_isIn_14 : decode k_X10_isIn.2.1 14 = .ok (.goto 4, 3) := by decide +kernel
theorem dX10_isIn_17 : decode k_X10_isIn.2.1 17 = .ok (.iconst 0, 1) := by decide +kernel
theorem dX10_isIn_18 : decode k_X10_isIn.2.1 18 = .ok (.ireturn, 1) := by decide +kernel
theorem dX10_greater_0 : decode k_X10_greater.2.1 0 = .ok (.iload_n 0, 1) := by decide +kernel
theorem dX10_greater_1 : decode k_X10_greater.2.1 1 = .ok (.iload_n 1, 1) := by decide +kernel
theorem dX10_greater_2 : decode k_X10_greater.2.1 2 = .ok (.if_icmp .le 7, 3) := by decide +kernel
theorem dX10_greater_5 : decode k_X10_greater.2.1 5 = .ok (.iload_n 0, 1) := by decide +kernel
theorem dX10_greater_6 : decode k_X10_greater.2.1 6 = .ok (.goto 4, 3) := by decide +kernel
theorem dX10_greater_9 : decode k_X10_greater.2.1 9 = .ok (.iload_n 1, 1) := by decide +kernel
theorem dX10_greater_10 : decode k_X10_greater.2.1 10 = .ok (.ireturn, 1) := by decide +kernel
theorem dX10_lesser_0 : decode k_X10_lesser.2.1 0 = .ok (.iload_n 0, 1) := by decide +kernel
theorem dX10_lesser_1 : decode k_X10_lesser.2.1 1 = .ok (.iload_n 1, 1) := by decide +kernel
theorem dX10_lesser_2 : decode k_X10_lesser.2.1 2 = .ok (.if_icmp .ge 7, 3) := by decide +kernel
theorem dX10_lesser_5 : decode k_X10_lesser.2.1 5 = .ok (.iload_n 0, 1) := by decide +kernel
theorem dX10_lesser_6 : decode k_X10_lesser.2.1 6 = .ok (.goto 4, 3) := by decide +kernel
theorem dX10_lesser_9 : decode k_X10_lesser.2.1 9 = .ok (.iload_n 1, 1) := by decide +kernel
theorem dX10_lesser_10 : decode k_X10_lesser.2.1 10 = .ok (.ireturn, 1) := by decide +kernel
theorem dX10_init_0 : decode k_X10_init.2.1 0 = .ok (.aload_n 0, 1) := by decide +kernel
theorem dX10_init_1 : decode k_X10_init.2.1 1 = .ok (.invokespecial 7, 3) := by decide +kernel
theorem dX10_init_4 : decode k_X10_init.2.1 4 = .ok (.aload_n 0, 1) := by decide +kernel
theorem dX10_init_5 : decode k_X10_init.2.1 5 = .ok (.sipush 3063, 3) := by decide +kernel
theorem dX10_init_8 : decode k_X10_init.2.1 8 = .ok (.newarray .int, 2) := by decide +kernel
theorem dX10_init_10 : decode k_X10_init.2.1 10 = .ok (.putfield 13, 3) := by decide +kernel
theorem dX10_init_13 : decode k_X10_init.2.1 13 = .ok (.aload_n 0, 1) := by decide +kernel
theorem dX10_init_14 : decode k_X10_init.2.1 14 = .ok (.sipush 10210, 3) := by decide +kernel
theorem dX10_init_17 : decode k_X10_init.2.1 17 = .ok (.newarray .int, 2) := by decide +kernel
theorem dX10_init_19 : decode k_X10_init.2.1 19 = .ok (.putfield 17, 3) := by decide +kernel
theorem dX10_init_22 : decode k_X10_init.2.1 22 = .ok (.aload_n 0, 1) := by decide +kernel
theorem dX10_init_23 : decode k_X10_init.2.1 23 = .ok (.sipush 1021, 3) := by decide +kernel
theorem dX10_init_26 : decode k_X10_init.2.1 26 = .ok (.newarray .int, 2) := by decide +kernel
theorem dX10_init_28 : decode k_X10_init.2.1 28 = .ok (.putfield 20, 3) := by decide +kernel
theorem dX10_init_31 : decode k_X10_init.2.1 31 = .ok (.aload_n 0, 1) := by decide +kernel
theorem dX10_init_32 : decode k_X10_init.2.1 32 = .ok (.sipush 3063, 3) := by decide +kernel
theorem dX10_init_35 : decode k_X10_init.2.1 35 = .ok (.newarray .int, 2) := by decide +kernel
theorem dX10_init_37 : decode k_X10_init.2.1 37 = .ok (.putfield 23, 3) := by decide +kernel
theorem dX10_init_40 : decode k_X10_init.2.1 40 = .ok (.aload_n 0, 1) := by decide +kernel
theorem dX10_init_41 : decode k_X10_init.2.1 41 = .ok (.iconst 2, 1) := by decide +kernel
theorem dX10_init_42 : decode k_X10_init.2.1 42 = .ok (.newarray .boolean, 2) := by decide +kernel
theorem dX10_init_44 : decode k_X10_init.2.1 44 = .ok (.putfield 26, 3) := by decide +kernel
theorem dX10_init_47 : decode k_X10_init.2.1 47 = .ok (.aload_n 0, 1) := by decide +kernel
theorem dX10_init_48 : decode k_X10_init.2.1 48 = .ok (.bipush 86, 2) := by decide +kernel
theorem dX10_init_50 : decode k_X10_init.2.1 50 = .ok (.newarray .int, 2) := by decide +kernel
theorem dX10_init_52 : decode k_X10_init.2.1 52 = .ok (.putfield 30, 3) := by decide +kernel
theorem dX10_init_55 : decode k_X10_init.2.1 55 = .ok (.aload_n 0, 1) := by decide +kernel
theorem dX10_init_56 : decode k_X10_init.2.1 56 = .ok (.bipush 86, 2) := by decide +kernel
theorem dX10_init_58 : decode k_X10_init.2.1 58 = .ok (.newarray .int, 2) := by decide +kernel
theorem dX10_init_60 : decode k_X10_init.2.1 60 = .ok (.putfield 33, 3) := by decide +kernel
theorem dX10_init_63 : decode k_X10_init.2.1 63 = .ok (.aload_n 0, 1) := by decide +kernel
theorem dX10_init_64 : decode k_X10_init.2.1 64 = .ok (.sipush 240, 3) := by decide +kernel
theorem dX10_init_67 : decode k_X10_init.2.1 67 = .ok (.newarray .int, 2) := by decide +kernel
theorem dX10_init_69 : decode k_X10_init.2.1 69 = .ok (.putfield 36, 3) := by decide +kernel
theorem dX10_init_72 : decode k_X10_init.2.1 72 = .ok (.aload_n 0, 1) := by decide +kernel
theorem dX10_init_73 : decode k_X10_init.2.1 73 = .ok (.sipush 240, 3) := by decide +kernel
theorem dX10_init_76 : decode k_X10_init.2.1 76 = .ok (.newarray .int, 2) := by decide +kernel
theorem dX10_init_78 : decode k_X10_init.2.1 78 = .ok (.putfield 39, 3) := by decide +kernel
theorem dX10_init_81 : decode k_X10_init.2.1 81 = .ok (.aload_n 0, 1) := by decide +kernel
theorem dX10_init_82 : decode k_X10_init.2.1 82 = .ok (.sipush 260, 3) := by decide +kernel
theorem dX10_init_85 : decode k_X10_init.2.1 85 = .ok (.newarray .byte, 2) := by decide +kernel
theorem dX10_init_87 : decode k_X10_init.2.1 87 = .ok (.putfield 42, 3) := by decide +kernel
theorem dX10_init_90 : decode k_X10_init.2.1 90 = .ok (.aload_n 0, 1) := by decide +kernel
theorem dX10_init_91 : decode k_X10_init.2.1 91 = .ok (.iconst (-1), 1) := by decide +kernel
theorem dX10_init_92 : decode k_X10_init.2.1 92 = .ok (.putfield 46, 3) := by decide +kernel
theorem dX10_init_95 : decode k_X10_init.2.1 95 = .ok (.aload_n 0, 1) := by decide +kernel
theorem dX10_init_96 : decode k_X10_init.2.1 96 = .ok (.bipush 20, 2) := by decide +kernel
theorem dX10_init_98 : decode k_X10_init.2.1 98 = .ok (.newarray .int, 2) := by decide +kernel
theorem dX10_init_100 : decode k_X10_init.2.1 100 = .ok (.putfield 49, 3) := by decide +kernel
theorem dX10_init_103 : decode k_X10_init.2.1 103 = .ok (.aload_n 0, 1) := by decide +kernel
theorem dX10_init_104 : decode k_X10_init.2.1 104 = .ok (.sipush 1021, 3) := by decide +kernel
theorem dX10_init_107 : decode k_X10_init.2.1 107 = .ok (.newarray .int, 2) := by decide +kernel
theorem dX10_init_109 : decode k_X10_init.2.1 109 = .ok (.putfield 52, 3) := by decide +kernel
theorem dX10_init_112 : decode k_X10_init.2.1 112 = .ok (.aload_n 0, 1) := by decide +kernel
theorem dX10_init_113 : decode k_X10_init.2.1 113 = .ok (.sipush 1090, 3) := by decide +kernel
theorem dX10_init_116 : decode k_X10_init.2.1 116 = .ok (.newarray .int, 2) := by decide +kernel
theorem dX10_init_118 : decode k_X10_init.2.1 118 = .ok (.putfield 55, 3) := by decide +kernel
theorem dX10_init_121 : decode k_X10_init.2.1 121 = .ok (.aload_n 0, 1) := by decide +kernel
theorem dX10_init_122 : decode k_X10_init.2.1 122 = .ok (.bipush 86, 2) := by decide +kernel
theorem dX10_init_124 : decode k_X10_init.2.1 124 = .ok (.newarray .boolean, 2) := by decide +kernel
theorem dX10_init_126 : decode k_X10_init.2.1 126 = .ok (.putfield 58, 3) := by decide +kernel
theorem dX10_init_129 : decode k_X10_init.2.1 129 = .ok (.aload_n 0, 1) := by decide +kernel
theorem dX10_init_130 : decode k_X10_init.2.1 130 = .ok (.bipush 86, 2) := by decide +kernel
theorem dX10_init_132 : decode k_X10_init.2.1 132 = .ok (.newarray .int, 2) := by decide +kernel
theorem dX10_init_134 : decode k_X10_init.2.1 134 = .ok (.putfield 61, 3) := by decide +kernel
theorem dX10_init_137 : decode k_X10_init.2.1 137 = .ok (.aload_n 0, 1) := by decide +kernel
theorem dX10_init_138 : decode k_X10_init.2.1 138 = .ok (.bipush 86, 2) := by decide +kernel
theorem dX10_init_140 : decode k_X10_init.2.1 140 = .ok (.newarray .int, 2) := by decide +kernel
theorem dX10_init_142 : decode k_X10_init.2.1 142 = .ok (.putfield 64, 3) := by decide +kernel
theorem dX10_init_145 : decode k_X10_init.2.1 145 = .ok (.aload_n 0, 1) := by decide +kernel
theorem dX10_init_146 : decode k_X10_init.2.1 146 = .ok (.bipush 86, 2) := by decide +kernel
theorem dX10_init_148 : decode k_X10_init.2.1 148 = .ok (.newarray .int, 2) := by decide +kernel
theorem dX10_init_150 : decode k_X10_init.2.1 150 = .ok (.putfield 67, 3) := by decide +kernel
theorem dX10_init_153 : decode k_X10_init.2.1 153 = .ok (.aload_n 0, 1) := by decide +kernel
theorem dX10_init_154 : decode k_X10_init.2.1 154 = .ok (.bipush 86, 2) := by decide +kernel
theorem dX10_init_156 : decode k_X10_init.2.1 156 = .ok (.newarray .int, 2) := by decide +kernel
theorem dX10_init_158 : decode k_X10_init.2.1 158 = .ok (.putfield 70, 3) := by decide +kernel
theorem dX10_init_161 : decode k_X10_init.2.1 161 = .ok (.aload_n 0, 1) := by decide +kernel
theorem dX10_init_162 : decode k_X10_init.2.1 162 = .ok (.bipush 86, 2) := by decide +kernel
theorem dX10_init_164 : decode k_X10_init.2.1 164 = .ok (.newarray .int, 2) := by decide +kernel
theorem dX10_init_166 : decode k_X10_init.2.1 166 = .ok (.putfield 73, 3) := by decide +kernel
theorem dX10_init_169 : decode k_X10_init.2.1 169 = .ok (.aload_n 0, 1) := by decide +kernel
theorem dX10_init_170 : decode k_X10_init.2.1 170 = .ok (.sipush 7396, 3) := by decide +kernel
theorem dX10_init_173 : decode k_X10_init.2.1 173 = .ok (.newarray .int, 2) := by decide +kernel
theorem dX10_init_175 : decode k_X10_init.2.1 175 = .ok (.putfield 76, 3) := by decide +kernel
theorem dX10_init_178 : decode k_X10_init.2.1 178 = .ok (.aload_n 0, 1) := by decide +kernel
theorem dX10_init_179 : decode k_X10_init.2.1 179 = .ok (.sipush 7396, 3) := by decide +kernel
theorem dX10_init_182 : decode k_X10_init.2.1 182 = .ok (.newarray .int, 2) := by decide +kernel
theorem dX10_init_184 : decode k_X10_init.2.1 184 = .ok (.putfield 79, 3) := by decide +kernel
theorem dX10_init_187 : decode k_X10_init.2.1 187 = .ok (.aload_n 0, 1) := by decide +kernel
theorem dX10_init_188 : decode k_X10_init.2.1 188 = .ok (.sipush 240, 3) := by decide +kernel
theorem dX10_init_191 : decode k_X10_init.2.1 191 = .ok (.newarray .int, 2) := by decide +kernel
theorem dX10_init_193 : decode k_X10_init.2.1 193 = .ok (.putfield 82, 3) := by decide +kernel
theorem dX10_init_196 : decode k_X10_init.2.1 196 = .ok (.return_, 1) := by decide +kernel
theorem dX10_copies_0 : decode k_X10_copies.2.1 0 = .ok (.iconst 0, 1) := by decide +kernel
theorem dX10_copies_1 : decode k_X10_copies.2.1 1 = .ok (.istore 5, 2) := by decide +kernel
theorem dX10_copies_3 : decode k_X10_copies.2.1 3 = .ok (.iload 5, 2) := by decide +kernel
theorem dX10_copies_5 : decode k_X10_copies.2.1 5 = .ok (.iload 4, 2) := by decide +kernel
theorem dX10_copies_7 : decode k_X10_copies.2.1 7 = .ok (.if_icmp .ge 21, 3) := by decide +kernel
theorem dX10_copies_10 : decode k_X10_copies.2.1 10 = .ok (.aload_n 2, 1) := by decide +kernel
theorem dX10_copies_11 : decode k_X10_copies.2.1 11 = .ok (.iload_n 3, 1) := by decide +kernel
theorem dX10_copies_12 : decode k_X10_copies.2.1 12 = .ok (.iload 5, 2) := by decide +kernel
theorem dX10_copies_14 : decode k_X10_copies.2.1 14 = .ok (.iadd, 1) := by decide +kernel
theorem dX10_copies_15 : decode k_X10_copies.2.1 15 = .ok (.aload_n 0, 1) := by decide +kernel
theorem dX10_copies_16 : decode k_X10_copies.2.1 16 = .ok (.iload_n 1, 1) := by decide +kernel
theorem dX10_copies_17 : decode k_X10_copies.2.1 17 = .ok (.iload 5, 2) := by decide +kernel
theorem dX10_copies_19 : decode k_X10_copies.2.1 19 = .ok (.iadd, 1) := by decide +kernel
theorem dX10_copies_20 : decode k_X10_copies.2.1 20 = .ok (.iaload, 1) := by decide +kernel
theorem dX10_copies_21 : decode k_X10_copies.2.1 21 = .ok (.iastore, 1) := by decide +kernel
theorem dX10_copies_22 : decode k_X10_copies.2.1 22 = .ok (.iinc 5 1, 3) := by decide +kernel
theorem dX10_copies_25 : decode k_X10_copies.2.1 25 = .ok (.goto (-22), 3) := by decide +kernel
theorem dX10_copies_28 : decode k_X10_copies.2.1 28 = .ok (.return_, 1) := by decide +kernel
theorem dX10_notes_0 : decode k_X10_notes.2.1 0 = .ok (.aload_n 0, 1) := by decide +kernel
theorem dX10_notes_1 : decode k_X10_notes.2.1 1 = .ok (.getfield 85, 3) := by decide +kernel
theorem dX10_notes_4 : decode k_X10_notes.2.1 4 = .ok (.bipush 10, 2) := by decide +kernel
theorem dX10_notes_6 : decode k_X10_notes.2.1 6 = .ok (.if_icmp .ne 31, 3) := by decide +kernel
theorem dX10_notes_9 : decode k_X10_notes.2.1 9 = .ok (.aload_n 0, 1) := by decide +kernel
theorem dX10_notes_10 : decode k_X10_notes.2.1 10 = .ok (.getfield 17, 3) := by decide +kernel
theorem dX10_notes_13 : decode k_X10_notes.2.1 13 = .ok (.sipush 1021, 3) := by decide +kernel
theorem dX10_notes_16 : decode k_X10_notes.2.1 16 = .ok (.aload_n 0, 1) := by decide +kernel
theorem dX10_notes_17 : decode k_X10_notes.2.1 17 = .ok (.getfield 17, 3) := by decide +kernel
theorem dX10_notes_20 : decode k_X10_notes.2.1 20 = .ok (.iconst 0, 1) := by decide +kernel
theorem dX10_notes_21 : decode k_X10_notes.2.1 21 = .ok (.sipush 9189, 3) := by decide +kernel
theorem dX10_notes_24 : decode k_X10_notes.2.1 24 = .ok (.invokestatic 88, 3) := by decide +kernel
theorem dX10_notes_27 : decode k_X10_notes.2.1 27 = .ok (.aload_n 0, 1) := by decide +kernel
theorem dX10_notes_28 : decode k_X10_notes.2.1 28 = .ok (.dup, 1) := by decide +kernel
theorem dX10_notes_29 : decode k_X10_notes.2.1 29 = .ok (.getfield 85, 3) := by decide +kernel
theorem dX10_notes_32 : decode k_X10_notes.2.1 32 = .ok (.iconst 1, 1) := by decide +kernel
theorem dX10_notes_33 : decode k_X10_notes.2.1 33 = .ok (.isub, 1) := by decide +kernel
theorem dX10_notes_34 : decode k_X10_notes.2.1 34 = .ok (.putfield 85, 3) := by decide +kernel
theorem dX10_notes_37 : decode k_X10_notes.2.1 37 = .ok (.aload_n 0, 1) := by decide +kernel
theorem dX10_notes_38 : decode k_X10_notes.2.1 38 = .ok (.getfield 13, 3) := by decide +kernel
theorem dX10_notes_41 : decode k_X10_notes.2.1 41 = .ok (.iconst 0, 1) := by decide +kernel
theorem dX10_notes_42 : decode k_X10_notes.2.1 42 = .ok (.aload_n 0, 1) := by decide +kernel
theorem dX10_notes_43 : decode k_X10_notes.2.1 43 = .ok (.getfield 17, 3) := by decide +kernel
theorem dX10_notes_46 : decode k_X10_notes.2.1 46 = .ok (.sipush 1021, 3) := by decide +kernel
theorem dX10_notes_49 : decode k_X10_notes.2.1 49 = .ok (.aload_n 0, 1) := by decide +kernel
theorem dX10_notes_50 : decode k_X10_notes.2.1 50 = .ok (.getfield 85, 3) := by decide +kernel
theorem dX10_notes_53 : decode k_X10_notes.2.1 53 = .ok (.imul, 1) := by decide +kernel
theorem dX10_notes_54 : decode k_X10_notes.2.1 54 = .ok (.sipush 1021, 3) := by decide +kernel
theorem dX10_notes_57 : decode k_X10_notes.2.1 57 = .ok (.invokestatic 88, 3) := by decide +kernel
theorem dX10_notes_60 : decode k_X10_notes.2.1 60 = .ok (.aload_n 0, 1) := by decide +kernel
theorem dX10_notes_61 : decode k_X10_notes.2.1 61 = .ok (.dup, 1) := by decide +kernel
theorem dX10_notes_62 : decode k_X10_notes.2.1 62 = .ok (.getfield 85, 3) := by decide +kernel
