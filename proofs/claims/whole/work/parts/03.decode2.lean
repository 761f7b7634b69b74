theorem dX7_greatestGain_15 : decode cX7_greatestGain 15 = .ok (.iload 4, 2) := by decide +kernel
theorem dX7_greatestGain_17 : decode cX7_greatestGain 17 = .ok (.invokevirtual 68, 3) := by decide +kernel
theorem dX7_greatestGain_20 : decode cX7_greatestGain 20 = .ok (.istore 5, 2) := by decide +kernel
theorem dX7_greatestGain_22 : decode cX7_greatestGain 22 = .ok (.iload_n 2, 1) := by decide +kernel
theorem dX7_greatestGain_23 : decode cX7_greatestGain 23 = .ok (.ifCond .gt 12, 3) := by decide +kernel
theorem dX7_greatestGain_26 : decode cX7_greatestGain 26 = .ok (.aload_n 0, 1) := by decide +kernel
theorem dX7_greatestGain_27 : decode cX7_greatestGain 27 = .ok (.iload 5, 2) := by decide +kernel
theorem dX7_greatestGain_29 : decode cX7_greatestGain 29 = .ok (.invokevirtual 90, 3) := by decide +kernel
theorem dX7_greatestGain_32 : decode cX7_greatestGain 32 = .ok (.ifCond .eq 15, 3) := by decide +kernel
theorem dX7_greatestGain_35 : decode cX7_greatestGain 35 = .ok (.iload_n 3, 1) := by decide +kernel
theorem dX7_greatestGain_36 : decode cX7_greatestGain 36 = .ok (.aload_n 0, 1) := by decide +kernel
theorem dX7_greatestGain_37 : decode cX7_greatestGain 37 = .ok (.aload_n 1, 1) := by decide +kernel
theorem dX7_greatestGain_38 : decode cX7_greatestGain 38 = .ok (.iload 5, 2) := by decide +kernel
theorem dX7_greatestGain_40 : decode cX7_greatestGain 40 = .ok (.invokevirtual 94, 3) := by decide +kernel
theorem dX7_greatestGain_43 : decode cX7_greatestGain 43 = .ok (.invokestatic 97, 3) := by decide +kernel
theorem dX7_greatestGain_46 : decode cX7_greatestGain 46 = .ok (.istore_n 3, 1) := by decide +kernel
theorem dX7_greatestGain_47 : decode cX7_greatestGain 47 = .ok (.iinc 4 1, 3) := by decide +kernel
theorem dX7_greatestGain_50 : decode cX7_greatestGain 50 = .ok (.goto (-45), 3) := by decide +kernel
theorem dX7_greatestGain_53 : decode cX7_greatestGain 53 = .ok (.iload_n 3, 1) := by decide +kernel
theorem dX7_greatestGain_54 : decode cX7_greatestGain 54 = .ok (.ireturn, 1) := by decide +kernel
theorem dX7_leastBehind_0 : decode cX7_leastBehind 0 = .ok (.iload 4, 2) := by decide +kernel
theorem dX7_leastBehind_2 : decode cX7_leastBehind 2 = .ok (.ifCond .ne 13, 3) := by decide +kernel
theorem dX7_leastBehind_5 : decode cX7_leastBehind 5 = .ok (.aload_n 0, 1) := by decide +kernel
theorem dX7_leastBehind_6 : decode cX7_leastBehind 6 = .ok (.iload_n 2, 1) := by decide +kernel
theorem dX7_leastBehind_7 : decode cX7_leastBehind 7 = .ok (.invokevirtual 90, 3) := by decide +kernel
theorem dX7_leastBehind_10 : decode cX7_leastBehind 10 = .ok (.ifCond .ne 5, 3) := by decide +kernel
theorem dX7_leastBehind_13 : decode cX7_leastBehind 13 = .ok (.iload_n 3, 1) := by decide +kernel
theorem dX7_leastBehind_14 : decode cX7_leastBehind 14 = .ok (.ireturn, 1) := by decide +kernel
theorem dX7_leastBehind_15 : decode cX7_leastBehind 15 = .ok (.iload_n 2, 1) := by decide +kernel
theorem dX7_leastBehind_16 : decode cX7_leastBehind 16 = .ok (.invokestatic 100, 3) := by decide +kernel
theorem dX7_leastBehind_19 : decode cX7_leastBehind 19 = .ok (.istore 5, 2) := by decide +kernel
theorem dX7_leastBehind_21 : decode cX7_leastBehind 21 = .ok (.iload_n 2, 1) := by decide +kernel
theorem dX7_leastBehind_22 : decode cX7_leastBehind 22 = .ok (.invokestatic 103, 3) := by decide +kernel
theorem dX7_leastBehind_25 : decode cX7_leastBehind 25 = .ok (.istore 6, 2) := by decide +kernel
theorem dX7_leastBehind_27 : decode cX7_leastBehind 27 = .ok (.aload_n 0, 1) := by decide +kernel
theorem dX7_leastBehind_28 : decode cX7_leastBehind 28 = .ok (.getfield 30, 3) := by decide +kernel
theorem dX7_leastBehind_31 : decode cX7_leastBehind 31 = .ok (.aload_n 1, 1) := by decide +kernel
theorem dX7_leastBehind_32 : decode cX7_leastBehind 32 = .ok (.invokevirtual 47, 3) := by decide +kernel
theorem dX7_leastBehind_35 : decode cX7_leastBehind 35 = .ok (.invokevirtual 106, 3) := by decide +kernel
theorem dX7_leastBehind_38 : decode cX7_leastBehind 38 = .ok (.aload_n 0, 1) := by decide +kernel
theorem dX7_leastBehind_39 : decode cX7_leastBehind 39 = .ok (.getfield 30, 3) := by decide +kernel
theorem dX7_leastBehind_42 : decode cX7_leastBehind 42 = .ok (.iload 5, 2) := by decide +kernel
theorem dX7_leastBehind_44 : decode cX7_leastBehind 44 = .ok (.iload 6, 2) := by decide +kernel
theorem dX7_leastBehind_46 : decode cX7_leastBehind 46 = .ok (.aload_n 1, 1) := by decide +kernel
theorem dX7_leastBehind_47 : decode cX7_leastBehind 47 = .ok (.iload 5, 2) := by decide +kernel
theorem dX7_leastBehind_49 : decode cX7_leastBehind 49 = .ok (.iload 6, 2) := by decide +kernel
theorem dX7_leastBehind_51 : decode cX7_leastBehind 51 = .ok (.invokevirtual 109, 3) := by decide +kernel
theorem dX7_leastBehind_54 : decode cX7_leastBehind 54 = .ok (.invokevirtual 112, 3) := by decide +kernel
theorem dX7_leastBehind_57 : decode cX7_leastBehind 57 = .ok (.aload_n 0, 1) := by decide +kernel
theorem dX7_leastBehind_58 : decode cX7_leastBehind 58 = .ok (.getfield 18, 3) := by decide +kernel
theorem dX7_leastBehind_61 : decode cX7_leastBehind 61 = .ok (.aload_n 0, 1) := by decide +kernel
theorem dX7_leastBehind_62 : decode cX7_leastBehind 62 = .ok (.getfield 30, 3) := by decide +kernel
theorem dX7_leastBehind_65 : decode cX7_leastBehind 65 = .ok (.invokevirtual 51, 3) := by decide +kernel
theorem dX7_leastBehind_68 : decode cX7_leastBehind 68 = .ok (.aload_n 0, 1) := by decide +kernel
theorem dX7_leastBehind_69 : decode cX7_leastBehind 69 = .ok (.iload_n 2, 1) := by decide +kernel
theorem dX7_leastBehind_70 : decode cX7_leastBehind 70 = .ok (.invokevirtual 90, 3) := by decide +kernel
theorem dX7_leastBehind_73 : decode cX7_leastBehind 73 = .ok (.ifCond .eq 8, 3) := by decide +kernel
theorem dX7_leastBehind_76 : decode cX7_leastBehind 76 = .ok (.iload 4, 2) := by decide +kernel
theorem dX7_leastBehind_78 : decode cX7_leastBehind 78 = .ok (.goto 7, 3) := by decide +kernel
theorem dX7_leastBehind_81 : decode cX7_leastBehind 81 = .ok (.iload 4, 2) := by decide +kernel
theorem dX7_leastBehind_83 : decode cX7_leastBehind 83 = .ok (.iconst 1, 1) := by decide +kernel
theorem dX7_leastBehind_84 : decode cX7_leastBehind 84 = .ok (.isub, 1) := by decide +kernel
theorem dX7_leastBehind_85 : decode cX7_leastBehind 85 = .ok (.istore 7, 2) := by decide +kernel
theorem dX7_leastBehind_87 : decode cX7_leastBehind 87 = .ok (.iload_n 3, 1) := by decide +kernel
theorem dX7_leastBehind_88 : decode cX7_leastBehind 88 = .ok (.aload_n 0, 1) := by decide +kernel
theorem dX7_leastBehind_89 : decode cX7_leastBehind 89 = .ok (.aload_n 0, 1) := by decide +kernel
theorem dX7_leastBehind_90 : decode cX7_leastBehind 90 = .ok (.getfield 12, 3) := by decide +kernel
theorem dX7_leastBehind_93 : decode cX7_leastBehind 93 = .ok (.iload_n 2, 1) := by decide +kernel
theorem dX7_leastBehind_94 : decode cX7_leastBehind 94 = .ok (.invokevirtual 94, 3) := by decide +kernel
theorem dX7_leastBehind_97 : decode cX7_leastBehind 97 = .ok (.isub, 1) := by decide +kernel
theorem dX7_leastBehind_98 : decode cX7_leastBehind 98 = .ok (.aload_n 0, 1) := by decide +kernel
theorem dX7_leastBehind_99 : decode cX7_leastBehind 99 = .ok (.aload_n 0, 1) := by decide +kernel
theorem dX7_leastBehind_100 : decode cX7_leastBehind 100 = .ok (.getfield 18, 3) := by decide +kernel
theorem dX7_leastBehind_103 : decode cX7_leastBehind 103 = .ok (.iload 7, 2) := by decide +kernel
theorem dX7_leastBehind_105 : decode cX7_leastBehind 105 = .ok (.invokevirtual 55, 3) := by decide +kernel
theorem dX7_leastBehind_108 : decode cX7_leastBehind 108 = .ok (.isub, 1) := by decide +kernel
theorem dX7_leastBehind_109 : decode cX7_leastBehind 109 = .ok (.ireturn, 1) := by decide +kernel
theorem dX8_init_0 : decode cX8_init 0 = .ok (.aload_n 0, 1) := by decide +kernel
theorem dX8_init_1 : decode cX8_init 1 = .ok (.invokespecial 3, 3) := by decide +kernel
theorem dX8_init_4 : decode cX8_init 4 = .ok (.aload_n 0, 1) := by decide +kernel
theorem dX8_init_5 : decode cX8_init 5 = .ok (.bipush 86, 2) := by decide +kernel
theorem dX8_init_7 : decode cX8_init 7 = .ok (.newarray .int, 2) := by decide +kernel
theorem dX8_init_9 : decode cX8_init 9 = .ok (.putfield 9, 3) := by decide +kernel
theorem dX8_init_12 : decode cX8_init 12 = .ok (.aload_n 0, 1) := by decide +kernel
theorem dX8_init_13 : decode cX8_init 13 = .ok (.bipush 86, 2) := by decide +kernel
theorem dX8_init_15 : decode cX8_init 15 = .ok (.newarray .int, 2) := by decide +kernel
theorem dX8_init_17 : decode cX8_init 17 = .ok (.putfield 15, 3) := by decide +kernel
theorem dX8_init_20 : decode cX8_init 20 = .ok (.aload_n 0, 1) := by decide +kernel
theorem dX8_init_21 : decode cX8_init 21 = .ok (.new 18, 3) := by decide +kernel
theorem dX8_init_24 : decode cX8_init 24 = .ok (.dup, 1) := by decide +kernel
theorem dX8_init_25 : decode cX8_init 25 = .ok (.bipush 60, 2) := by decide +kernel
theorem dX8_init_27 : decode cX8_init 27 = .ok (.invokespecial 20, 3) := by decide +kernel
theorem dX8_init_30 : decode cX8_init 30 = .ok (.putfield 23, 3) := by decide +kernel
theorem dX8_init_33 : decode cX8_init 33 = .ok (.aload_n 0, 1) := by decide +kernel
theorem dX8_init_34 : decode cX8_init 34 = .ok (.iconst (-1), 1) := by decide +kernel
theorem dX8_init_35 : decode cX8_init 35 = .ok (.putfield 27, 3) := by decide +kernel
theorem dX8_init_38 : decode cX8_init 38 = .ok (.aload_n 0, 1) := by decide +kernel
theorem dX8_init_39 : decode cX8_init 39 = .ok (.iconst 0, 1) := by decide +kernel
theorem dX8_init_40 : decode cX8_init 40 = .ok (.putfield 31, 3) := by decide +kernel
theorem dX8_init_43 : decode cX8_init 43 = .ok (.return_, 1) := by decide +kernel
theorem dX8_learn_0 : decode cX8_learn 0 = .ok (.aload_n 0, 1) := by decide +kernel
theorem dX8_learn_1 : decode cX8_learn 1 = .ok (.getfield 23, 3) := by decide +kernel
theorem dX8_learn_4 : decode cX8_learn 4 = .ok (.invokevirtual 34, 3) := by decide +kernel
theorem dX8_learn_7 : decode cX8_learn 7 = .ok (.iconst 0, 1) := by decide +kernel
theorem dX8_learn_8 : decode cX8_learn 8 = .ok (.istore_n 2, 1) := by decide +kernel
theorem dX8_learn_9 : decode cX8_learn 9 = .ok (.iload_n 2, 1) := by decide +kernel
theorem dX8_learn_10 : decode cX8_learn 10 = .ok (.bipush 86, 2) := by decide +kernel
theorem dX8_learn_12 : decode cX8_learn 12 = .ok (.if_icmp .ge 34, 3) := by decide +kernel
theorem dX8_learn_15 : decode cX8_learn 15 = .ok (.aload_n 0, 1) := by decide +kernel
theorem dX8_learn_16 : decode cX8_learn 16 = .ok (.getfield 9, 3) := by decide +kernel
theorem dX8_learn_19 : decode cX8_learn 19 = .ok (.iload_n 2, 1) := by decide +kernel
theorem dX8_learn_20 : decode cX8_learn 20 = .ok (.iload_n 2, 1) := by decide +kernel
theorem dX8_learn_21 : decode cX8_learn 21 = .ok (.invokestatic 37, 3) := by decide +kernel
theorem dX8_learn_24 : decode cX8_learn 24 = .ok (.ifCond .eq 7, 3) := by decide +kernel
theorem dX8_learn_27 : decode cX8_learn 27 = .ok (.iconst 1, 1) := by decide +kernel
theorem dX8_learn_28 : decode cX8_learn 28 = .ok (.goto 4, 3) := by decide +kernel
theorem dX8_learn_31 : decode cX8_learn 31 = .ok (.iconst 0, 1) := by decide +kernel
theorem dX8_learn_32 : decode cX8_learn 32 = .ok (.iastore, 1) := by decide +kernel
theorem dX8_learn_33 : decode cX8_learn 33 = .ok (.aload_n 0, 1) := by decide +kernel
theorem dX8_learn_34 : decode cX8_learn 34 = .ok (.getfield 15, 3) := by decide +kernel
theorem dX8_learn_37 : decode cX8_learn 37 = .ok (.iload_n 2, 1) := by decide +kernel
theorem dX8_learn_38 : decode cX8_learn 38 = .ok (.iconst 0, 1) := by decide +kernel
theorem dX8_learn_39 : decode cX8_learn 39 = .ok (.iastore, 1) := by decide +kernel
theorem dX8_learn_40 : decode cX8_learn 40 = .ok (.iinc 2 1, 3) := by decide +kernel
theorem dX8_learn_43 : decode cX8_learn 43 = .ok (.goto (-34), 3) := by decide +kernel
theorem dX8_learn_46 : decode cX8_learn 46 = .ok (.iconst 0, 1) := by decide +kernel
theorem dX8_learn_47 : decode cX8_learn 47 = .ok (.istore_n 2, 1) := by decide +kernel
theorem dX8_learn_48 : decode cX8_learn 48 = .ok (.iload_n 2, 1) := by decide +kernel
theorem dX8_learn_49 : decode cX8_learn 49 = .ok (.bipush 60, 2) := by decide +kernel
theorem dX8_learn_51 : decode cX8_learn 51 = .ok (.if_icmp .ge 31, 3) := by decide +kernel
theorem dX8_learn_54 : decode cX8_learn 54 = .ok (.aload_n 0, 1) := by decide +kernel
theorem dX8_learn_55 : decode cX8_learn 55 = .ok (.aload_n 1, 1) := by decide +kernel
theorem dX8_learn_56 : decode cX8_learn 56 = .ok (.invokevirtual 41, 3) := by decide +kernel
theorem dX8_learn_59 : decode cX8_learn 59 = .ok (.istore_n 3, 1) := by decide +kernel
theorem dX8_learn_60 : decode cX8_learn 60 = .ok (.iload_n 3, 1) := by decide +kernel
theorem dX8_learn_61 : decode cX8_learn 61 = .ok (.iconst (-1), 1) := by decide +kernel
theorem dX8_learn_62 : decode cX8_learn 62 = .ok (.if_icmp .ne 4, 3) := by decide +kernel
theorem dX8_learn_65 : decode cX8_learn 65 = .ok (.return_, 1) := by decide +kernel
theorem dX8_learn_66 : decode cX8_learn 66 = .ok (.aload_n 0, 1) := by decide +kernel
theorem dX8_learn_67 : decode cX8_learn 67 = .ok (.iload_n 3, 1) := by decide +kernel
theorem dX8_learn_68 : decode cX8_learn 68 = .ok (.aload_n 1, 1) := by decide +kernel
theorem dX8_learn_69 : decode cX8_learn 69 = .ok (.iload_n 3, 1) := by decide +kernel
theorem dX8_learn_70 : decode cX8_learn 70 = .ok (.invokevirtual 45, 3) := by decide +kernel
theorem dX8_learn_73 : decode cX8_learn 73 = .ok (.invokevirtual 51, 3) := by decide +kernel
theorem dX8_learn_76 : decode cX8_learn 76 = .ok (.iinc 2 1, 3) := by decide +kernel
theorem dX8_learn_79 : decode cX8_learn 79 = .ok (.goto (-31), 3) := by decide +kernel
theorem dX8_learn_82 : decode cX8_learn 82 = .ok (.return_, 1) := by decide +kernel
theorem dX8_told_0 : decode cX8_told 0 = .ok (.aload_n 0, 1) := by decide +kernel
theorem dX8_told_1 : decode cX8_told 1 = .ok (.getfield 23, 3) := by decide +kernel
theorem dX8_told_4 : decode cX8_told 4 = .ok (.invokevirtual 55, 3) := by decide +kernel
theorem dX8_told_7 : decode cX8_told 7 = .ok (.ireturn, 1) := by decide +kernel
theorem dX8_toldAt_0 : decode cX8_toldAt 0 = .ok (.aload_n 0, 1) := by decide +kernel
theorem dX8_toldAt_1 : decode cX8_toldAt 1 = .ok (.getfield 23, 3) := by decide +kernel
theorem dX8_toldAt_4 : decode cX8_toldAt 4 = .ok (.iload_n 1, 1) := by decide +kernel
theorem dX8_toldAt_5 : decode cX8_toldAt 5 = .ok (.invokevirtual 59, 3) := by decide +kernel
theorem dX8_toldAt_8 : decode cX8_toldAt 8 = .ok (.ireturn, 1) := by decide +kernel
theorem dX8_lettersOf_0 : decode cX8_lettersOf 0 = .ok (.iload_n 1, 1) := by decide +kernel
theorem dX8_lettersOf_1 : decode cX8_lettersOf 1 = .ok (.ifCond .lt 18, 3) := by decide +kernel
theorem dX8_lettersOf_4 : decode cX8_lettersOf 4 = .ok (.iload_n 1, 1) := by decide +kernel
theorem dX8_lettersOf_5 : decode cX8_lettersOf 5 = .ok (.bipush 86, 2) := by decide +kernel
theorem dX8_lettersOf_7 : decode cX8_lettersOf 7 = .ok (.if_icmp .ge 12, 3) := by decide +kernel
theorem dX8_lettersOf_10 : decode cX8_lettersOf 10 = .ok (.aload_n 0, 1) := by decide +kernel
theorem dX8_lettersOf_11 : decode cX8_lettersOf 11 = .ok (.getfield 9, 3) := by decide +kernel
theorem dX8_lettersOf_14 : decode cX8_lettersOf 14 = .ok (.iload_n 1, 1) := by decide +kernel
theorem dX8_lettersOf_15 : decode cX8_lettersOf 15 = .ok (.iaload, 1) := by decide +kernel
theorem dX8_lettersOf_16 : decode cX8_lettersOf 16 = .ok (.goto 4, 3) := by decide +kernel
theorem dX8_lettersOf_19 : decode cX8_lettersOf 19 = .ok (.iconst 0, 1) := by decide +kernel
theorem dX8_lettersOf_20 : decode cX8_lettersOf 20 = .ok (.ireturn, 1) := by decide +kernel
theorem dX8_depthOf_0 : decode cX8_depthOf 0 = .ok (.iload_n 1, 1) := by decide +kernel
theorem dX8_depthOf_1 : decode cX8_depthOf 1 = .ok (.ifCond .lt 18, 3) := by decide +kernel
theorem dX8_depthOf_4 : decode cX8_depthOf 4 = .ok (.iload_n 1, 1) := by decide +kernel
theorem dX8_depthOf_5 : decode cX8_depthOf 5 = .ok (.bipush 86, 2) := by decide +kernel
theorem dX8_depthOf_7 : decode cX8_depthOf 7 = .ok (.if_icmp .ge 12, 3) := by decide +kernel
theorem dX8_depthOf_10 : decode cX8_depthOf 10 = .ok (.aload_n 0, 1) := by decide +kernel
theorem dX8_depthOf_11 : decode cX8_depthOf 11 = .ok (.getfield 15, 3) := by decide +kernel
theorem dX8_depthOf_14 : decode cX8_depthOf 14 = .ok (.iload_n 1, 1) := by decide +kernel
theorem dX8_depthOf_15 : decode cX8_depthOf 15 = .ok (.iaload, 1) := by decide +kernel
theorem dX8_depthOf_16 : decode cX8_depthOf 16 = .ok (.goto 4, 3) := by decide +kernel
theorem dX8_depthOf_19 : decode cX8_depthOf 19 = .ok (.iconst 0, 1) := by decide +kernel
theorem dX8_depthOf_20 : decode cX8_depthOf 20 = .ok (.ireturn, 1) := by decide +kernel
theorem dX8_goDown_0 : decode cX8_goDown 0 = .ok (.aload_n 0, 1) := by decide +kernel
theorem dX8_goDown_1 : decode cX8_goDown 1 = .ok (.iload_n 2, 1) := by decide +kernel
theorem dX8_goDown_2 : decode cX8_goDown 2 = .ok (.putfield 27, 3) := by decide +kernel
theorem dX8_goDown_5 : decode cX8_goDown 5 = .ok (.aload_n 0, 1) := by decide +kernel
theorem dX8_goDown_6 : decode cX8_goDown 6 = .ok (.iconst 0, 1) := by decide +kernel
theorem dX8_goDown_7 : decode cX8_goDown 7 = .ok (.putfield 31, 3) := by decide +kernel
theorem dX8_goDown_10 : decode cX8_goDown 10 = .ok (.iload_n 3, 1) := by decide +kernel
theorem dX8_goDown_11 : decode cX8_goDown 11 = .ok (.istore 5, 2) := by decide +kernel
theorem dX8_goDown_13 : decode cX8_goDown 13 = .ok (.aload_n 0, 1) := by decide +kernel
theorem dX8_goDown_14 : decode cX8_goDown 14 = .ok (.getfield 31, 3) := by decide +kernel
theorem dX8_goDown_17 : decode cX8_goDown 17 = .ok (.iload 4, 2) := by decide +kernel
theorem dX8_goDown_19 : decode cX8_goDown 19 = .ok (.if_icmp .ge 101, 3) := by decide +kernel
theorem dX8_goDown_22 : decode cX8_goDown 22 = .ok (.aload_n 1, 1) := by decide +kernel
theorem dX8_goDown_23 : decode cX8_goDown 23 = .ok (.aload_n 0, 1) := by decide +kernel
theorem dX8_goDown_24 : decode cX8_goDown 24 = .ok (.getfield 27, 3) := by decide +kernel
theorem dX8_goDown_27 : decode cX8_goDown 27 = .ok (.invokevirtual 63, 3) := by decide +kernel
theorem dX8_goDown_30 : decode cX8_goDown 30 = .ok (.ifCond .eq 90, 3) := by decide +kernel
theorem dX8_goDown_33 : decode cX8_goDown 33 = .ok (.aload_n 1, 1) := by decide +kernel
theorem dX8_goDown_34 : decode cX8_goDown 34 = .ok (.aload_n 0, 1) := by decide +kernel
theorem dX8_goDown_35 : decode cX8_goDown 35 = .ok (.getfield 27, 3) := by decide +kernel
theorem dX8_goDown_38 : decode cX8_goDown 38 = .ok (.invokevirtual 45, 3) := by decide +kernel
theorem dX8_goDown_41 : decode cX8_goDown 41 = .ok (.astore 6, 2) := by decide +kernel
theorem dX8_goDown_43 : decode cX8_goDown 43 = .ok (.iconst 0, 1) := by decide +kernel
theorem dX8_goDown_44 : decode cX8_goDown 44 = .ok (.istore 7, 2) := by decide +kernel
theorem dX8_goDown_46 : decode cX8_goDown 46 = .ok (.iload 7, 2) := by decide +kernel
theorem dX8_goDown_48 : decode cX8_goDown 48 = .ok (.aload 6, 2) := by decide +kernel
theorem dX8_goDown_50 : decode cX8_goDown 50 = .ok (.invokevirtual 55, 3) := by decide +kernel
theorem dX8_goDown_53 : decode cX8_goDown 53 = .ok (.iconst 1, 1) := by decide +kernel
theorem dX8_goDown_54 : decode cX8_goDown 54 = .ok (.isub, 1) := by decide +kernel
theorem dX8_goDown_55 : decode cX8_goDown 55 = .ok (.if_icmp .ge 41, 3) := by decide +kernel
theorem dX8_goDown_58 : decode cX8_goDown 58 = .ok (.iload 5, 2) := by decide +kernel
theorem dX8_goDown_60 : decode cX8_goDown 60 = .ok (.aload_n 0, 1) := by decide +kernel
theorem dX8_goDown_61 : decode cX8_goDown 61 = .ok (.aload 6, 2) := by decide +kernel
theorem dX8_goDown_63 : decode cX8_goDown 63 = .ok (.iload 7, 2) := by decide +kernel
theorem dX8_goDown_65 : decode cX8_goDown 65 = .ok (.invokevirtual 59, 3) := by decide +kernel
theorem dX8_goDown_68 : decode cX8_goDown 68 = .ok (.invokevirtual 66, 3) := by decide +kernel
theorem dX8_goDown_71 : decode cX8_goDown 71 = .ok (.if_icmp .lt 25, 3) := by decide +kernel
theorem dX8_goDown_74 : decode cX8_goDown 74 = .ok (.iload 5, 2) := by decide +kernel
theorem dX8_goDown_76 : decode cX8_goDown 76 = .ok (.aload_n 0, 1) := by decide +kernel
theorem dX8_goDown_77 : decode cX8_goDown 77 = .ok (.aload 6, 2) := by decide +kernel
theorem dX8_goDown_79 : decode cX8_goDown 79 = .ok (.iload 7, 2) := by decide +kernel
theorem dX8_goDown_81 : decode cX8_goDown 81 = .ok (.invokevirtual 59, 3) := by decide +kernel
theorem dX8_goDown_84 : decode cX8_goDown 84 = .ok (.invokevirtual 66, 3) := by decide +kernel
theorem dX8_goDown_87 : decode cX8_goDown 87 = .ok (.isub, 1) := by decide +kernel
theorem dX8_goDown_88 : decode cX8_goDown 88 = .ok (.istore 5, 2) := by decide +kernel
theorem dX8_goDown_90 : decode cX8_goDown 90 = .ok (.iinc 7 1, 3) := by decide +kernel
theorem dX8_goDown_93 : decode cX8_goDown 93 = .ok (.goto (-47), 3) := by decide +kernel
theorem dX8_goDown_96 : decode cX8_goDown 96 = .ok (.aload_n 0, 1) := by decide +kernel
theorem dX8_goDown_97 : decode cX8_goDown 97 = .ok (.aload 6, 2) := by decide +kernel
theorem dX8_goDown_99 : decode cX8_goDown 99 = .ok (.iload 7, 2) := by decide +kernel
theorem dX8_goDown_101 : decode cX8_goDown 101 = .ok (.invokevirtual 59, 3) := by decide +kernel
theorem dX8_goDown_104 : decode cX8_goDown 104 = .ok (.putfield 27, 3) := by decide +kernel
theorem dX8_goDown_107 : decode cX8_goDown 107 = .ok (.aload_n 0, 1) := by decide +kernel
theorem dX8_goDown_108 : decode cX8_goDown 108 = .ok (.dup, 1) := by decide +kernel
theorem dX8_goDown_109 : decode cX8_goDown 109 = .ok (.getfield 31, 3) := by decide +kernel
theorem dX8_goDown_112 : decode cX8_goDown 112 = .ok (.iconst 1, 1) := by decide +kernel
theorem dX8_goDown_113 : decode cX8_goDown 113 = .ok (.iadd, 1) := by decide +kernel
theorem dX8_goDown_114 : decode cX8_goDown 114 = .ok (.putfield 31, 3) := by decide +kernel
theorem dX8_goDown_117 : decode cX8_goDown 117 = .ok (.goto (-104), 3) := by decide +kernel
theorem dX8_goDown_120 : decode cX8_goDown 120 = .ok (.return_, 1) := by decide +kernel
theorem dX8_reached_0 : decode cX8_reached 0 = .ok (.aload_n 0, 1) := by decide +kernel
theorem dX8_reached_1 : decode cX8_reached 1 = .ok (.getfield 27, 3) := by decide +kernel
theorem dX8_reached_4 : decode cX8_reached 4 = .ok (.ireturn, 1) := by decide +kernel
theorem dX8_levelsGone_0 : decode cX8_levelsGone 0 = .ok (.aload_n 0, 1) := by decide +kernel
theorem dX8_levelsGone_1 : decode cX8_levelsGone 1 = .ok (.getfield 31, 3) := by decide +kernel
theorem dX8_levelsGone_4 : decode cX8_levelsGone 4 = .ok (.ireturn, 1) := by decide +kernel
theorem dX8_leastReady_0 : decode cX8_leastReady 0 = .ok (.bipush 26, 2) := by decide +kernel
theorem dX8_leastReady_2 : decode cX8_leastReady 2 = .ok (.istore_n 2, 1) := by decide +kernel
theorem dX8_leastReady_3 : decode cX8_leastReady 3 = .ok (.iload_n 2, 1) := by decide +kernel
theorem dX8_leastReady_4 : decode cX8_leastReady 4 = .ok (.bipush 86, 2) := by decide +kernel
theorem dX8_leastReady_6 : decode cX8_leastReady 6 = .ok (.if_icmp .ge 40, 3) := by decide +kernel
theorem dX8_leastReady_9 : decode cX8_leastReady 9 = .ok (.aload_n 0, 1) := by decide +kernel
theorem dX8_leastReady_10 : decode cX8_leastReady 10 = .ok (.getfield 9, 3) := by decide +kernel
theorem dX8_leastReady_13 : decode cX8_leastReady 13 = .ok (.iload_n 2, 1) := by decide +kernel
theorem dX8_leastReady_14 : decode cX8_leastReady 14 = .ok (.iaload, 1) := by decide +kernel
theorem dX8_leastReady_15 : decode cX8_leastReady 15 = .ok (.ifCond .ne 25, 3) := by decide +kernel
theorem dX8_leastReady_18 : decode cX8_leastReady 18 = .ok (.aload_n 1, 1) := by decide +kernel
theorem dX8_leastReady_19 : decode cX8_leastReady 19 = .ok (.iload_n 2, 1) := by decide +kernel
theorem dX8_leastReady_20 : decode cX8_leastReady 20 = .ok (.invokevirtual 63, 3) := by decide +kernel
theorem dX8_leastReady_23 : decode cX8_leastReady 23 = .ok (.ifCond .eq 17, 3) := by decide +kernel
theorem dX8_leastReady_26 : decode cX8_leastReady 26 = .ok (.aload_n 0, 1) := by decide +kernel
theorem dX8_leastReady_27 : decode cX8_leastReady 27 = .ok (.aload_n 1, 1) := by decide +kernel
theorem dX8_leastReady_28 : decode cX8_leastReady 28 = .ok (.iload_n 2, 1) := by decide +kernel
theorem dX8_leastReady_29 : decode cX8_leastReady 29 = .ok (.invokevirtual 45, 3) := by decide +kernel
theorem dX8_leastReady_32 : decode cX8_leastReady 32 = .ok (.invokevirtual 69, 3) := by decide +kernel
theorem dX8_leastReady_35 : decode cX8_leastReady 35 = .ok (.ifCond .eq 5, 3) := by decide +kernel
theorem dX8_leastReady_38 : decode cX8_leastReady 38 = .ok (.iload_n 2, 1) := by decide +kernel
theorem dX8_leastReady_39 : decode cX8_leastReady 39 = .ok (.ireturn, 1) := by decide +kernel
theorem dX8_leastReady_40 : decode cX8_leastReady 40 = .ok (.iinc 2 1, 3) := by decide +kernel
theorem dX8_leastReady_43 : decode cX8_leastReady 43 = .ok (.goto (-40), 3) := by decide +kernel
theorem dX8_leastReady_46 : decode cX8_leastReady 46 = .ok (.iconst (-1), 1) := by decide +kernel
theorem dX8_leastReady_47 : decode cX8_leastReady 47 = .ok (.ireturn, 1) := by decide +kernel
theorem dX8_isReady_0 : decode cX8_isReady 0 = .ok (.iconst 0, 1) := by decide +kernel
theorem dX8_isReady_1 : decode cX8_isReady 1 = .ok (.istore_n 2, 1) := by decide +kernel
theorem dX8_isReady_2 : decode cX8_isReady 2 = .ok (.iload_n 2, 1) := by decide +kernel
theorem dX8_isReady_3 : decode cX8_isReady 3 = .ok (.aload_n 1, 1) := by decide +kernel
theorem dX8_isReady_4 : decode cX8_isReady 4 = .ok (.invokevirtual 55, 3) := by decide +kernel
theorem dX8_isReady_7 : decode cX8_isReady 7 = .ok (.if_icmp .ge 23, 3) := by decide +kernel
theorem dX8_isReady_10 : decode cX8_isReady 10 = .ok (.aload_n 0, 1) := by decide +kernel
theorem dX8_isReady_11 : decode cX8_isReady 11 = .ok (.aload_n 1, 1) := by decide +kernel
theorem dX8_isReady_12 : decode cX8_isReady 12 = .ok (.iload_n 2, 1) := by decide +kernel
theorem dX8_isReady_13 : decode cX8_isReady 13 = .ok (.invokevirtual 59, 3) := by decide +kernel
theorem dX8_isReady_16 : decode cX8_isReady 16 = .ok (.invokevirtual 66, 3) := by decide +kernel
theorem dX8_isReady_19 : decode cX8_isReady 19 = .ok (.ifCond .ne 5, 3) := by decide +kernel
theorem dX8_isReady_22 : decode cX8_isReady 22 = .ok (.iconst 0, 1) := by decide +kernel
theorem dX8_isReady_23 : decode cX8_isReady 23 = .ok (.ireturn, 1) := by decide +kernel
theorem dX8_isReady_24 : decode cX8_isReady 24 = .ok (.iinc 2 1, 3) := by decide +kernel
theorem dX8_isReady_27 : decode cX8_isReady 27 = .ok (.goto (-25), 3) := by decide +kernel
theorem dX8_isReady_30 : decode cX8_isReady 30 = .ok (.iconst 1, 1) := by decide +kernel
theorem dX8_isReady_31 : decode cX8_isReady 31 = .ok (.ireturn, 1) := by decide +kernel
theorem dX8_tell_0 : decode cX8_tell 0 = .ok (.iload_n 1, 1) := by decide +kernel
theorem dX8_tell_1 : decode cX8_tell 1 = .ok (.ifCond .lt 9, 3) := by decide +kernel
theorem dX8_tell_4 : decode cX8_tell 4 = .ok (.iload_n 1, 1) := by decide +kernel
theorem dX8_tell_5 : decode cX8_tell 5 = .ok (.bipush 86, 2) := by decide +kernel
theorem dX8_tell_7 : decode cX8_tell 7 = .ok (.if_icmp .lt 4, 3) := by decide +kernel
theorem dX8_tell_10 : decode cX8_tell 10 = .ok (.return_, 1) := by decide +kernel
theorem dX8_tell_11 : decode cX8_tell 11 = .ok (.iconst 0, 1) := by decide +kernel
theorem dX8_tell_12 : decode cX8_tell 12 = .ok (.istore_n 3, 1) := by decide +kernel
theorem dX8_tell_13 : decode cX8_tell 13 = .ok (.iconst 0, 1) := by decide +kernel
theorem dX8_tell_14 : decode cX8_tell 14 = .ok (.istore 4, 2) := by decide +kernel
theorem dX8_tell_16 : decode cX8_tell 16 = .ok (.iconst 0, 1) := by decide +kernel
theorem dX8_tell_17 : decode cX8_tell 17 = .ok (.istore 5, 2) := by decide +kernel
theorem dX8_tell_19 : decode cX8_tell 19 = .ok (.iload 5, 2) := by decide +kernel
theorem dX8_tell_21 : decode cX8_tell 21 = .ok (.aload_n 2, 1) := by decide +kernel
theorem dX8_tell_22 : decode cX8_tell 22 = .ok (.invokevirtual 55, 3) := by decide +kernel
theorem dX8_tell_25 : decode cX8_tell 25 = .ok (.if_icmp .ge 39, 3) := by decide +kernel
theorem dX8_tell_28 : decode cX8_tell 28 = .ok (.iload_n 3, 1) := by decide +kernel
theorem dX8_tell_29 : decode cX8_tell 29 = .ok (.aload_n 0, 1) := by decide +kernel
theorem dX8_tell_30 : decode cX8_tell 30 = .ok (.aload_n 2, 1) := by decide +kernel
theorem dX8_tell_31 : decode cX8_tell 31 = .ok (.iload 5, 2) := by decide +kernel
theorem dX8_tell_33 : decode cX8_tell 33 = .ok (.invokevirtual 59, 3) := by decide +kernel
theorem dX8_tell_36 : decode cX8_tell 36 = .ok (.invokevirtual 66, 3) := by decide +kernel
theorem dX8_tell_39 : decode cX8_tell 39 = .ok (.iadd, 1) := by decide +kernel
theorem dX8_tell_40 : decode cX8_tell 40 = .ok (.istore_n 3, 1) := by decide +kernel
theorem dX8_tell_41 : decode cX8_tell 41 = .ok (.iload 4, 2) := by decide +kernel
theorem dX8_tell_43 : decode cX8_tell 43 = .ok (.aload_n 0, 1) := by decide +kernel
theorem dX8_tell_44 : decode cX8_tell 44 = .ok (.aload_n 2, 1) := by decide +kernel
theorem dX8_tell_45 : decode cX8_tell 45 = .ok (.iload 5, 2) := by decide +kernel
theorem dX8_tell_47 : decode cX8_tell 47 = .ok (.invokevirtual 59, 3) := by decide +kernel
theorem dX8_tell_50 : decode cX8_tell 50 = .ok (.invokevirtual 73, 3) := by decide +kernel
theorem dX8_tell_53 : decode cX8_tell 53 = .ok (.invokestatic 76, 3) := by decide +kernel
theorem dX8_tell_56 : decode cX8_tell 56 = .ok (.istore 4, 2) := by decide +kernel
theorem dX8_tell_58 : decode cX8_tell 58 = .ok (.iinc 5 1, 3) := by decide +kernel
theorem dX8_tell_61 : decode cX8_tell 61 = .ok (.goto (-42), 3) := by decide +kernel
theorem dX8_tell_64 : decode cX8_tell 64 = .ok (.aload_n 0, 1) := by decide +kernel
theorem dX8_tell_65 : decode cX8_tell 65 = .ok (.getfield 9, 3) := by decide +kernel
theorem dX8_tell_68 : decode cX8_tell 68 = .ok (.iload_n 1, 1) := by decide +kernel
theorem dX8_tell_69 : decode cX8_tell 69 = .ok (.iload_n 3, 1) := by decide +kernel
theorem dX8_tell_70 : decode cX8_tell 70 = .ok (.iastore, 1) := by decide +kernel
theorem dX8_tell_71 : decode cX8_tell 71 = .ok (.aload_n 0, 1) := by decide +kernel
theorem dX8_tell_72 : decode cX8_tell 72 = .ok (.getfield 15, 3) := by decide +kernel
theorem dX8_tell_75 : decode cX8_tell 75 = .ok (.iload_n 1, 1) := by decide +kernel
theorem dX8_tell_76 : decode cX8_tell 76 = .ok (.iload 4, 2) := by decide +kernel
theorem dX8_tell_78 : decode cX8_tell 78 = .ok (.iconst 1, 1) := by decide +kernel
theorem dX8_tell_79 : decode cX8_tell 79 = .ok (.iadd, 1) := by decide +kernel
theorem dX8_tell_80 : decode cX8_tell 80 = .ok (.iastore, 1) := by decide +kernel
theorem dX8_tell_81 : decode cX8_tell 81 = .ok (.aload_n 0, 1) := by decide +kernel
theorem dX8_tell_82 : decode cX8_tell 82 = .ok (.getfield 23, 3) := by decide +kernel
theorem dX8_tell_85 : decode cX8_tell 85 = .ok (.iload_n 1, 1) := by decide +kernel
theorem dX8_tell_86 : decode cX8_tell 86 = .ok (.invokevirtual 82, 3) := by decide +kernel
theorem dX8_tell_89 : decode cX8_tell 89 = .ok (.return_, 1) := by decide +kernel
theorem dX9_init_0 : decode cX9_init 0 = .ok (.aload_n 0, 1) := by decide +kernel
theorem dX9_init_1 : decode cX9_init 1 = .ok (.invokespecial 3, 3) := by decide +kernel
theorem dX9_init_4 : decode cX9_init 4 = .ok (.aload_n 0, 1) := by decide +kernel
theorem dX9_init_5 : decode cX9_init 5 = .ok (.new 9, 3) := by decide +kernel
theorem dX9_init_8 : decode cX9_init 8 = .ok (.dup, 1) := by decide +kernel
theorem dX9_init_9 : decode cX9_init 9 = .ok (.invokespecial 11, 3) := by decide +kernel
theorem dX9_init_12 : decode cX9_init 12 = .ok (.putfield 12, 3) := by decide +kernel
theorem dX9_init_15 : decode cX9_init 15 = .ok (.aload_n 0, 1) := by decide +kernel
theorem dX9_init_16 : decode cX9_init 16 = .ok (.new 16, 3) := by decide +kernel
theorem dX9_init_19 : decode cX9_init 19 = .ok (.dup, 1) := by decide +kernel
theorem dX9_init_20 : decode cX9_init 20 = .ok (.invokespecial 18, 3) := by decide +kernel
theorem dX9_init_23 : decode cX9_init 23 = .ok (.putfield 19, 3) := by decide +kernel
theorem dX9_init_26 : decode cX9_init 26 = .ok (.aload_n 0, 1) := by decide +kernel
theorem dX9_init_27 : decode cX9_init 27 = .ok (.iconst 2, 1) := by decide +kernel
theorem dX9_init_28 : decode cX9_init 28 = .ok (.anewarray 9, 3) := by decide +kernel
theorem dX9_init_31 : decode cX9_init 31 = .ok (.putfield 23, 3) := by decide +kernel
theorem dX9_init_34 : decode cX9_init 34 = .ok (.aload_n 0, 1) := by decide +kernel
theorem dX9_init_35 : decode cX9_init 35 = .ok (.iconst 2, 1) := by decide +kernel
theorem dX9_init_36 : decode cX9_init 36 = .ok (.newarray .boolean, 2) := by decide +kernel
theorem dX9_init_38 : decode cX9_init 38 = .ok (.putfield 27, 3) := by decide +kernel
theorem dX9_init_41 : decode cX9_init 41 = .ok (.aload_n 0, 1) := by decide +kernel
theorem dX9_init_42 : decode cX9_init 42 = .ok (.new 31, 3) := by decide +kernel
theorem dX9_init_45 : decode cX9_init 45 = .ok (.dup, 1) := by decide +kernel
theorem dX9_init_46 : decode cX9_init 46 = .ok (.sipush 260, 3) := by decide +kernel
theorem dX9_init_49 : decode cX9_init 49 = .ok (.invokespecial 33, 3) := by decide +kernel
theorem dX9_init_52 : decode cX9_init 52 = .ok (.putfield 36, 3) := by decide +kernel
theorem dX9_init_55 : decode cX9_init 55 = .ok (.aload_n 0, 1) := by decide +kernel
theorem dX9_init_56 : decode cX9_init 56 = .ok (.new 31, 3) := by decide +kernel
theorem dX9_init_59 : decode cX9_init 59 = .ok (.dup, 1) := by decide +kernel
theorem dX9_init_60 : decode cX9_init 60 = .ok (.bipush 20, 2) := by decide +kernel
theorem dX9_init_62 : decode cX9_init 62 = .ok (.invokespecial 33, 3) := by decide +kernel
theorem dX9_init_65 : decode cX9_init 65 = .ok (.putfield 40, 3) := by decide +kernel
theorem dX9_init_68 : decode cX9_init 68 = .ok (.aload_n 0, 1) := by decide +kernel
theorem dX9_init_69 : decode cX9_init 69 = .ok (.new 43, 3) := by decide +kernel
theorem dX9_init_72 : decode cX9_init 72 = .ok (.dup, 1) := by decide +kernel
theorem dX9_init_73 : decode cX9_init 73 = .ok (.invokespecial 45, 3) := by decide +kernel
theorem dX9_init_76 : decode cX9_init 76 = .ok (.putfield 46, 3) := by decide +kernel
theorem dX9_init_79 : decode cX9_init 79 = .ok (.aload_n 0, 1) := by decide +kernel
theorem dX9_init_80 : decode cX9_init 80 = .ok (.iconst 0, 1) := by decide +kernel
theorem dX9_init_81 : decode cX9_init 81 = .ok (.putfield 50, 3) := by decide +kernel
theorem dX9_init_84 : decode cX9_init 84 = .ok (.aload_n 0, 1) := by decide +kernel
theorem dX9_init_85 : decode cX9_init 85 = .ok (.iconst (-1), 1) := by decide +kernel
theorem dX9_init_86 : decode cX9_init 86 = .ok (.putfield 54, 3) := by decide +kernel
theorem dX9_init_89 : decode cX9_init 89 = .ok (.aload_n 0, 1) := by decide +kernel
theorem dX9_init_90 : decode cX9_init 90 = .ok (.new 57, 3) := by decide +kernel
theorem dX9_init_93 : decode cX9_init 93 = .ok (.dup, 1) := by decide +kernel
theorem dX9_init_94 : decode cX9_init 94 = .ok (.invokespecial 59, 3) := by decide +kernel
theorem dX9_init_97 : decode cX9_init 97 = .ok (.putfield 60, 3) := by decide +kernel
theorem dX9_init_100 : decode cX9_init 100 = .ok (.aload_n 0, 1) := by decide +kernel
theorem dX9_init_101 : decode cX9_init 101 = .ok (.new 64, 3) := by decide +kernel
theorem dX9_init_104 : decode cX9_init 104 = .ok (.dup, 1) := by decide +kernel
theorem dX9_init_105 : decode cX9_init 105 = .ok (.invokespecial 66, 3) := by decide +kernel
theorem dX9_init_108 : decode cX9_init 108 = .ok (.putfield 67, 3) := by decide +kernel
theorem dX9_init_111 : decode cX9_init 111 = .ok (.aload_n 0, 1) := by decide +kernel
theorem dX9_init_112 : decode cX9_init 112 = .ok (.iconst 0, 1) := by decide +kernel
theorem dX9_init_113 : decode cX9_init 113 = .ok (.putfield 71, 3) := by decide +kernel
theorem dX9_init_116 : decode cX9_init 116 = .ok (.aload_n 0, 1) := by decide +kernel
theorem dX9_init_117 : decode cX9_init 117 = .ok (.new 31, 3) := by decide +kernel
theorem dX9_init_120 : decode cX9_init 120 = .ok (.dup, 1) := by decide +kernel
theorem dX9_init_121 : decode cX9_init 121 = .ok (.iconst 1, 1) := by decide +kernel
theorem dX9_init_122 : decode cX9_init 122 = .ok (.invokespecial 33, 3) := by decide +kernel
theorem dX9_init_125 : decode cX9_init 125 = .ok (.putfield 75, 3) := by decide +kernel
theorem dX9_init_128 : decode cX9_init 128 = .ok (.aload_n 0, 1) := by decide +kernel
theorem dX9_init_129 : decode cX9_init 129 = .ok (.new 64, 3) := by decide +kernel
theorem dX9_init_132 : decode cX9_init 132 = .ok (.dup, 1) := by decide +kernel
theorem dX9_init_133 : decode cX9_init 133 = .ok (.invokespecial 66, 3) := by decide +kernel
theorem dX9_init_136 : decode cX9_init 136 = .ok (.putfield 78, 3) := by decide +kernel
theorem dX9_init_139 : decode cX9_init 139 = .ok (.aload_n 0, 1) := by decide +kernel
theorem dX9_init_140 : decode cX9_init 140 = .ok (.new 81, 3) := by decide +kernel
theorem dX9_init_143 : decode cX9_init 143 = .ok (.dup, 1) := by decide +kernel
theorem dX9_init_144 : decode cX9_init 144 = .ok (.invokespecial 83, 3) := by decide +kernel
theorem dX9_init_147 : decode cX9_init 147 = .ok (.putfield 84, 3) := by decide +kernel
theorem dX9_init_150 : decode cX9_init 150 = .ok (.aload_n 0, 1) := by decide +kernel
theorem dX9_init_151 : decode cX9_init 151 = .ok (.new 88, 3) := by decide +kernel
theorem dX9_init_154 : decode cX9_init 154 = .ok (.dup, 1) := by decide +kernel
theorem dX9_init_155 : decode cX9_init 155 = .ok (.invokespecial 90, 3) := by decide +kernel
theorem dX9_init_158 : decode cX9_init 158 = .ok (.putfield 91, 3) := by decide +kernel
theorem dX9_init_161 : decode cX9_init 161 = .ok (.aload_n 0, 1) := by decide +kernel
theorem dX9_init_162 : decode cX9_init 162 = .ok (.new 95, 3) := by decide +kernel
theorem dX9_init_165 : decode cX9_init 165 = .ok (.dup, 1) := by decide +kernel
theorem dX9_init_166 : decode cX9_init 166 = .ok (.invokespecial 97, 3) := by decide +kernel
theorem dX9_init_169 : decode cX9_init 169 = .ok (.putfield 98, 3) := by decide +kernel
theorem dX9_init_172 : decode cX9_init 172 = .ok (.aload_n 0, 1) := by decide +kernel
theorem dX9_init_173 : decode cX9_init 173 = .ok (.new 31, 3) := by decide +kernel
theorem dX9_init_176 : decode cX9_init 176 = .ok (.dup, 1) := by decide +kernel
theorem dX9_init_177 : decode cX9_init 177 = .ok (.sipush 1082, 3) := by decide +kernel
theorem dX9_init_180 : decode cX9_init 180 = .ok (.invokespecial 33, 3) := by decide +kernel
theorem dX9_init_183 : decode cX9_init 183 = .ok (.putfield 102, 3) := by decide +kernel
theorem dX9_init_186 : decode cX9_init 186 = .ok (.iconst 0, 1) := by decide +kernel
theorem dX9_init_187 : decode cX9_init 187 = .ok (.istore_n 1, 1) := by decide +kernel
theorem dX9_init_188 : decode cX9_init 188 = .ok (.iload_n 1, 1) := by decide +kernel
theorem dX9_init_189 : decode cX9_init 189 = .ok (.iconst 2, 1) := by decide +kernel
theorem dX9_init_190 : decode cX9_init 190 = .ok (.if_icmp .ge 22, 3) := by decide +kernel
theorem dX9_init_193 : decode cX9_init 193 = .ok (.aload_n 0, 1) := by decide +kernel
theorem dX9_init_194 : decode cX9_init 194 = .ok (.getfield 23, 3) := by decide +kernel
theorem dX9_init_197 : decode cX9_init 197 = .ok (.iload_n 1, 1) := by decide +kernel
theorem dX9_init_198 : decode cX9_init 198 = .ok (.new 9, 3) := by decide +kernel
theorem dX9_init_201 : decode cX9_init 201 = .ok (.dup, 1) := by decide +kernel
theorem dX9_init_202 : decode cX9_init 202 = .ok (.invokespecial 11, 3) := by decide +kernel
theorem dX9_init_205 : decode cX9_init 205 = .ok (.aastore, 1) := by decide +kernel
theorem dX9_init_206 : decode cX9_init 206 = .ok (.iinc 1 1, 3) := by decide +kernel
theorem dX9_init_209 : decode cX9_init 209 = .ok (.goto (-21), 3) := by decide +kernel
theorem dX9_init_212 : decode cX9_init 212 = .ok (.return_, 1) := by decide +kernel
theorem dX9_feed_0 : decode cX9_feed 0 = .ok (.aload_n 0, 1) := by decide +kernel
theorem dX9_feed_1 : decode cX9_feed 1 = .ok (.getfield 36, 3) := by decide +kernel
theorem dX9_feed_4 : decode cX9_feed 4 = .ok (.invokevirtual 105, 3) := by decide +kernel
theorem dX9_feed_7 : decode cX9_feed 7 = .ok (.bipush 20, 2) := by decide +kernel
theorem dX9_feed_9 : decode cX9_feed 9 = .ok (.iadd, 1) := by decide +kernel
theorem dX9_feed_10 : decode cX9_feed 10 = .ok (.sipush 260, 3) := by decide +kernel
theorem dX9_feed_13 : decode cX9_feed 13 = .ok (.if_icmp .le 6, 3) := by decide +kernel
theorem dX9_feed_16 : decode cX9_feed 16 = .ok (.bipush (-4), 2) := by decide +kernel
theorem dX9_feed_18 : decode cX9_feed 18 = .ok (.ireturn, 1) := by decide +kernel
theorem dX9_feed_19 : decode cX9_feed 19 = .ok (.aload_n 0, 1) := by decide +kernel
theorem dX9_feed_20 : decode cX9_feed 20 = .ok (.iload_n 1, 1) := by decide +kernel
theorem dX9_feed_21 : decode cX9_feed 21 = .ok (.invokevirtual 109, 3) := by decide +kernel
theorem dX9_feed_24 : decode cX9_feed 24 = .ok (.aload_n 0, 1) := by decide +kernel
theorem dX9_feed_25 : decode cX9_feed 25 = .ok (.iload_n 2, 1) := by decide +kernel
theorem dX9_feed_26 : decode cX9_feed 26 = .ok (.invokevirtual 109, 3) := by decide +kernel
theorem dX9_feed_29 : decode cX9_feed 29 = .ok (.aload_n 0, 1) := by decide +kernel
theorem dX9_feed_30 : decode cX9_feed 30 = .ok (.iload_n 3, 1) := by decide +kernel
theorem dX9_feed_31 : decode cX9_feed 31 = .ok (.invokevirtual 109, 3) := by decide +kernel
theorem dX9_feed_34 : decode cX9_feed 34 = .ok (.aload_n 0, 1) := by decide +kernel
theorem dX9_feed_35 : decode cX9_feed 35 = .ok (.iload 4, 2) := by decide +kernel
theorem dX9_feed_37 : decode cX9_feed 37 = .ok (.invokevirtual 109, 3) := by decide +kernel
theorem dX9_feed_40 : decode cX9_feed 40 = .ok (.aload_n 0, 1) := by decide +kernel
theorem dX9_feed_41 : decode cX9_feed 41 = .ok (.iload 5, 2) := by decide +kernel
theorem dX9_feed_43 : decode cX9_feed 43 = .ok (.invokevirtual 109, 3) := by decide +kernel
theorem dX9_feed_46 : decode cX9_feed 46 = .ok (.aload_n 0, 1) := by decide +kernel
theorem dX9_feed_47 : decode cX9_feed 47 = .ok (.getfield 36, 3) := by decide +kernel
theorem dX9_feed_50 : decode cX9_feed 50 = .ok (.invokevirtual 105, 3) := by decide +kernel
theorem dX9_feed_53 : decode cX9_feed 53 = .ok (.ireturn, 1) := by decide +kernel
theorem dX9_text_0 : decode cX9_text 0 = .ok (.aload_n 0, 1) := by decide +kernel
theorem dX9_text_1 : decode cX9_text 1 = .ok (.iload_n 1, 1) := by decide +kernel
theorem dX9_text_2 : decode cX9_text 2 = .ok (.invokevirtual 112, 3) := by decide +kernel
theorem dX9_text_5 : decode cX9_text 5 = .ok (.ifCond .ne 6, 3) := by decide +kernel
theorem dX9_text_8 : decode cX9_text 8 = .ok (.bipush (-3), 2) := by decide +kernel
theorem dX9_text_10 : decode cX9_text 10 = .ok (.ireturn, 1) := by decide +kernel
theorem dX9_text_11 : decode cX9_text 11 = .ok (.iload_n 1, 1) := by decide +kernel
theorem dX9_text_12 : decode cX9_text 12 = .ok (.sipush 240, 3) := by decide +kernel
theorem dX9_text_15 : decode cX9_text 15 = .ok (.if_icmp .le 12, 3) := by decide +kernel
theorem dX9_text_18 : decode cX9_text 18 = .ok (.aload_n 0, 1) := by decide +kernel
theorem dX9_text_19 : decode cX9_text 19 = .ok (.iconst 0, 1) := by decide +kernel
theorem dX9_text_20 : decode cX9_text 20 = .ok (.iconst (-1), 1) := by decide +kernel
theorem dX9_text_21 : decode cX9_text 21 = .ok (.invokevirtual 116, 3) := by decide +kernel
theorem dX9_text_24 : decode cX9_text 24 = .ok (.bipush (-4), 2) := by decide +kernel
theorem dX9_text_26 : decode cX9_text 26 = .ok (.ireturn, 1) := by decide +kernel
theorem dX9_text_27 : decode cX9_text 27 = .ok (.aload_n 0, 1) := by decide +kernel
theorem dX9_text_28 : decode cX9_text 28 = .ok (.iload_n 1, 1) := by decide +kernel
theorem dX9_text_29 : decode cX9_text 29 = .ok (.invokevirtual 120, 3) := by decide +kernel
theorem dX9_text_32 : decode cX9_text 32 = .ok (.istore_n 2, 1) := by decide +kernel
theorem dX9_text_33 : decode cX9_text 33 = .ok (.iload_n 2, 1) := by decide +kernel
theorem dX9_text_34 : decode cX9_text 34 = .ok (.iconst (-1), 1) := by decide +kernel
theorem dX9_text_35 : decode cX9_text 35 = .ok (.if_icmp .eq 10, 3) := by decide +kernel
theorem dX9_text_38 : decode cX9_text 38 = .ok (.aload_n 0, 1) := by decide +kernel
theorem dX9_text_39 : decode cX9_text 39 = .ok (.iconst 1, 1) := by decide +kernel
theorem dX9_text_40 : decode cX9_text 40 = .ok (.iload_n 2, 1) := by decide +kernel
theorem dX9_text_41 : decode cX9_text 41 = .ok (.invokevirtual 124, 3) := by decide +kernel
theorem dX9_text_44 : decode cX9_text 44 = .ok (.ireturn, 1) := by decide +kernel
theorem dX9_text_45 : decode cX9_text 45 = .ok (.aload_n 0, 1) := by decide +kernel
theorem dX9_text_46 : decode cX9_text 46 = .ok (.getfield 19, 3) := by decide +kernel
theorem dX9_text_49 : decode cX9_text 49 = .ok (.aload_n 0, 1) := by decide +kernel
theorem dX9_text_50 : decode cX9_text 50 = .ok (.getfield 12, 3) := by decide +kernel
theorem dX9_text_53 : decode cX9_text 53 = .ok (.invokevirtual 128, 3) := by decide +kernel
theorem dX9_text_56 : decode cX9_text 56 = .ok (.aload_n 0, 1) := by decide +kernel
theorem dX9_text_57 : decode cX9_text 57 = .ok (.getfield 12, 3) := by decide +kernel
theorem dX9_text_60 : decode cX9_text 60 = .ok (.invokevirtual 132, 3) := by decide +kernel
theorem dX9_text_63 : decode cX9_text 63 = .ok (.aload_n 0, 1) := by decide +kernel
theorem dX9_text_64 : decode cX9_text 64 = .ok (.iload_n 1, 1) := by decide +kernel
theorem dX9_text_65 : decode cX9_text 65 = .ok (.aload_n 0, 1) := by decide +kernel
theorem dX9_text_66 : decode cX9_text 66 = .ok (.getfield 12, 3) := by decide +kernel
theorem dX9_text_69 : decode cX9_text 69 = .ok (.invokevirtual 135, 3) := by decide +kernel
theorem dX9_text_72 : decode cX9_text 72 = .ok (.invokevirtual 139, 3) := by decide +kernel
theorem dX9_text_75 : decode cX9_text 75 = .ok (.aload_n 0, 1) := by decide +kernel
theorem dX9_text_76 : decode cX9_text 76 = .ok (.iconst 0, 1) := by decide +kernel
theorem dX9_text_77 : decode cX9_text 77 = .ok (.putfield 71, 3) := by decide +kernel
theorem dX9_text_80 : decode cX9_text 80 = .ok (.aload_n 0, 1) := by decide +kernel
theorem dX9_text_81 : decode cX9_text 81 = .ok (.iconst 0, 1) := by decide +kernel
theorem dX9_text_82 : decode cX9_text 82 = .ok (.iconst (-1), 1) := by decide +kernel
theorem dX9_text_83 : decode cX9_text 83 = .ok (.invokevirtual 116, 3) := by decide +kernel
theorem dX9_text_86 : decode cX9_text 86 = .ok (.iload_n 1, 1) := by decide +kernel
theorem dX9_text_87 : decode cX9_text 87 = .ok (.ireturn, 1) := by decide +kernel
theorem dX9_phrase_0 : decode cX9_phrase 0 = .ok (.aload_n 0, 1) := by decide +kernel
theorem dX9_phrase_1 : decode cX9_phrase 1 = .ok (.iload_n 1, 1) := by decide +kernel
theorem dX9_phrase_2 : decode cX9_phrase 2 = .ok (.invokevirtual 112, 3) := by decide +kernel
theorem dX9_phrase_5 : decode cX9_phrase 5 = .ok (.ifCond .ne 6, 3) := by decide +kernel
theorem dX9_phrase_8 : decode cX9_phrase 8 = .ok (.bipush (-3), 2) := by decide +kernel
theorem dX9_phrase_10 : decode cX9_phrase 10 = .ok (.ireturn, 1) := by decide +kernel
theorem dX9_phrase_11 : decode cX9_phrase 11 = .ok (.iload_n 1, 1) := by decide +kernel
theorem dX9_phrase_12 : decode cX9_phrase 12 = .ok (.ifCond .eq 9, 3) := by decide +kernel
theorem dX9_phrase_15 : decode cX9_phrase 15 = .ok (.iload_n 1, 1) := by decide +kernel
theorem dX9_phrase_16 : decode cX9_phrase 16 = .ok (.bipush 20, 2) := by decide +kernel
theorem dX9_phrase_18 : decode cX9_phrase 18 = .ok (.if_icmp .le 12, 3) := by decide +kernel
theorem dX9_phrase_21 : decode cX9_phrase 21 = .ok (.aload_n 0, 1) := by decide +kernel
theorem dX9_phrase_22 : decode cX9_phrase 22 = .ok (.iconst 0, 1) := by decide +kernel
theorem dX9_phrase_23 : decode cX9_phrase 23 = .ok (.iconst (-1), 1) := by decide +kernel
theorem dX9_phrase_24 : decode cX9_phrase 24 = .ok (.invokevirtual 116, 3) := by decide +kernel
theorem dX9_phrase_27 : decode cX9_phrase 27 = .ok (.bipush (-4), 2) := by decide +kernel
theorem dX9_phrase_29 : decode cX9_phrase 29 = .ok (.ireturn, 1) := by decide +kernel
theorem dX9_phrase_30 : decode cX9_phrase 30 = .ok (.aload_n 0, 1) := by decide +kernel
theorem dX9_phrase_31 : decode cX9_phrase 31 = .ok (.iload_n 1, 1) := by decide +kernel
theorem dX9_phrase_32 : decode cX9_phrase 32 = .ok (.invokevirtual 120, 3) := by decide +kernel
theorem dX9_phrase_35 : decode cX9_phrase 35 = .ok (.istore_n 2, 1) := by decide +kernel
theorem dX9_phrase_36 : decode cX9_phrase 36 = .ok (.iload_n 2, 1) := by decide +kernel
theorem dX9_phrase_37 : decode cX9_phrase 37 = .ok (.iconst (-1), 1) := by decide +kernel
theorem dX9_phrase_38 : decode cX9_phrase 38 = .ok (.if_icmp .eq 10, 3) := by decide +kernel
theorem dX9_phrase_41 : decode cX9_phrase 41 = .ok (.aload_n 0, 1) := by decide +kernel
theorem dX9_phrase_42 : decode cX9_phrase 42 = .ok (.iconst 1, 1) := by decide +kernel
theorem dX9_phrase_43 : decode cX9_phrase 43 = .ok (.iload_n 2, 1) := by decide +kernel
theorem dX9_phrase_44 : decode cX9_phrase 44 = .ok (.invokevirtual 124, 3) := by decide +kernel
theorem dX9_phrase_47 : decode cX9_phrase 47 = .ok (.ireturn, 1) := by decide +kernel
theorem dX9_phrase_48 : decode cX9_phrase 48 = .ok (.aload_n 0, 1) := by decide +kernel
theorem dX9_phrase_49 : decode cX9_phrase 49 = .ok (.getfield 40, 3) := by decide +kernel
theorem dX9_phrase_52 : decode cX9_phrase 52 = .ok (.invokevirtual 143, 3) := by decide +kernel
theorem dX9_phrase_55 : decode cX9_phrase 55 = .ok (.aload_n 0, 1) := by decide +kernel
theorem dX9_phrase_56 : decode cX9_phrase 56 = .ok (.iload_n 1, 1) := by decide +kernel
theorem dX9_phrase_57 : decode cX9_phrase 57 = .ok (.aload_n 0, 1) := by decide +kernel
theorem dX9_phrase_58 : decode cX9_phrase 58 = .ok (.getfield 40, 3) := by decide +kernel
theorem dX9_phrase_61 : decode cX9_phrase 61 = .ok (.invokevirtual 139, 3) := by decide +kernel
theorem dX9_phrase_64 : decode cX9_phrase 64 = .ok (.aload_n 0, 1) := by decide +kernel
theorem dX9_phrase_65 : decode cX9_phrase 65 = .ok (.iconst 0, 1) := by decide +kernel
theorem dX9_phrase_66 : decode cX9_phrase 66 = .ok (.iconst (-1), 1) := by decide +kernel
theorem dX9_phrase_67 : decode cX9_phrase 67 = .ok (.invokevirtual 116, 3) := by decide +kernel
theorem dX9_phrase_70 : decode cX9_phrase 70 = .ok (.aload_n 0, 1) := by decide +kernel
theorem dX9_phrase_71 : decode cX9_phrase 71 = .ok (.invokevirtual 144, 3) := by decide +kernel
theorem dX9_phrase_74 : decode cX9_phrase 74 = .ok (.aload_n 0, 1) := by decide +kernel
theorem dX9_phrase_75 : decode cX9_phrase 75 = .ok (.getfield 67, 3) := by decide +kernel
theorem dX9_phrase_78 : decode cX9_phrase 78 = .ok (.aload_n 0, 1) := by decide +kernel
theorem dX9_phrase_79 : decode cX9_phrase 79 = .ok (.getfield 40, 3) := by decide +kernel
theorem dX9_phrase_82 : decode cX9_phrase 82 = .ok (.invokevirtual 147, 3) := by decide +kernel
theorem dX9_phrase_85 : decode cX9_phrase 85 = .ok (.ireturn, 1) := by decide +kernel
theorem dX9_load_0 : decode cX9_load 0 = .ok (.aload_n 0, 1) := by decide +kernel
theorem dX9_load_1 : decode cX9_load 1 = .ok (.iload_n 1, 1) := by decide +kernel
theorem dX9_load_2 : decode cX9_load 2 = .ok (.invokevirtual 112, 3) := by decide +kernel
theorem dX9_load_5 : decode cX9_load 5 = .ok (.ifCond .ne 6, 3) := by decide +kernel
theorem dX9_load_8 : decode cX9_load 8 = .ok (.bipush (-3), 2) := by decide +kernel
theorem dX9_load_10 : decode cX9_load 10 = .ok (.ireturn, 1) := by decide +kernel
theorem dX9_load_11 : decode cX9_load 11 = .ok (.aload_n 0, 1) := by decide +kernel
theorem dX9_load_12 : decode cX9_load 12 = .ok (.getfield 46, 3) := by decide +kernel
theorem dX9_load_15 : decode cX9_load 15 = .ok (.aload_n 0, 1) := by decide +kernel
theorem dX9_load_16 : decode cX9_load 16 = .ok (.getfield 36, 3) := by decide +kernel
theorem dX9_load_19 : decode cX9_load 19 = .ok (.iload_n 1, 1) := by decide +kernel
theorem dX9_load_20 : decode cX9_load 20 = .ok (.invokevirtual 151, 3) := by decide +kernel
theorem dX9_load_23 : decode cX9_load 23 = .ok (.aload_n 0, 1) := by decide +kernel
theorem dX9_load_24 : decode cX9_load 24 = .ok (.getfield 46, 3) := by decide +kernel
theorem dX9_load_27 : decode cX9_load 27 = .ok (.invokevirtual 155, 3) := by decide +kernel
theorem dX9_load_30 : decode cX9_load 30 = .ok (.ifCond .eq 22, 3) := by decide +kernel
theorem dX9_load_33 : decode cX9_load 33 = .ok (.aload_n 0, 1) := by decide +kernel
theorem dX9_load_34 : decode cX9_load 34 = .ok (.aload_n 0, 1) := by decide +kernel
theorem dX9_load_35 : decode cX9_load 35 = .ok (.getfield 46, 3) := by decide +kernel
theorem dX9_load_38 : decode cX9_load 38 = .ok (.invokevirtual 155, 3) := by decide +kernel
theorem dX9_load_41 : decode cX9_load 41 = .ok (.aload_n 0, 1) := by decide +kernel
theorem dX9_load_42 : decode cX9_load 42 = .ok (.getfield 46, 3) := by decide +kernel
theorem dX9_load_45 : decode cX9_load 45 = .ok (.invokevirtual 157, 3) := by decide +kernel
theorem dX9_load_48 : decode cX9_load 48 = .ok (.invokevirtual 124, 3) := by decide +kernel
theorem dX9_load_51 : decode cX9_load 51 = .ok (.ireturn, 1) := by decide +kernel
theorem dX9_load_52 : decode cX9_load 52 = .ok (.aload_n 0, 1) := by decide +kernel
theorem dX9_load_53 : decode cX9_load 53 = .ok (.getfield 19, 3) := by decide +kernel
theorem dX9_load_56 : decode cX9_load 56 = .ok (.aload_n 0, 1) := by decide +kernel
theorem dX9_load_57 : decode cX9_load 57 = .ok (.getfield 12, 3) := by decide +kernel
theorem dX9_load_60 : decode cX9_load 60 = .ok (.invokevirtual 128, 3) := by decide +kernel
theorem dX9_load_63 : decode cX9_load 63 = .ok (.aload_n 0, 1) := by decide +kernel
theorem dX9_load_64 : decode cX9_load 64 = .ok (.getfield 12, 3) := by decide +kernel
theorem dX9_load_67 : decode cX9_load 67 = .ok (.aload_n 0, 1) := by decide +kernel
theorem dX9_load_68 : decode cX9_load 68 = .ok (.getfield 46, 3) := by decide +kernel
theorem dX9_load_71 : decode cX9_load 71 = .ok (.invokevirtual 159, 3) := by decide +kernel
theorem dX9_load_74 : decode cX9_load 74 = .ok (.invokevirtual 162, 3) := by decide +kernel
theorem dX9_load_77 : decode cX9_load 77 = .ok (.aload_n 0, 1) := by decide +kernel
theorem dX9_load_78 : decode cX9_load 78 = .ok (.iconst 0, 1) := by decide +kernel
theorem dX9_load_79 : decode cX9_load 79 = .ok (.putfield 71, 3) := by decide +kernel
theorem dX9_load_82 : decode cX9_load 82 = .ok (.aload_n 0, 1) := by decide +kernel
theorem dX9_load_83 : decode cX9_load 83 = .ok (.iconst 0, 1) := by decide +kernel
theorem dX9_load_84 : decode cX9_load 84 = .ok (.iconst (-1), 1) := by decide +kernel
theorem dX9_load_85 : decode cX9_load 85 = .ok (.invokevirtual 116, 3) := by decide +kernel
theorem dX9_load_88 : decode cX9_load 88 = .ok (.aload_n 0, 1) := by decide +kernel
theorem dX9_load_89 : decode cX9_load 89 = .ok (.invokevirtual 165, 3) := by decide +kernel
theorem dX9_load_92 : decode cX9_load 92 = .ok (.ireturn, 1) := by decide +kernel
theorem dX9_fault_0 : decode cX9_fault 0 = .ok (.iload_n 1, 1) := by decide +kernel
theorem dX9_fault_1 : decode cX9_fault 1 = .ok (.ifCond .ne 8, 3) := by decide +kernel
theorem dX9_fault_4 : decode cX9_fault 4 = .ok (.aload_n 0, 1) := by decide +kernel
theorem dX9_fault_5 : decode cX9_fault 5 = .ok (.getfield 50, 3) := by decide +kernel
theorem dX9_fault_8 : decode cX9_fault 8 = .ok (.ireturn, 1) := by decide +kernel
theorem dX9_fault_9 : decode cX9_fault 9 = .ok (.iload_n 1, 1) := by decide +kernel
theorem dX9_fault_10 : decode cX9_fault 10 = .ok (.iconst 1, 1) := by decide +kernel
theorem dX9_fault_11 : decode cX9_fault 11 = .ok (.if_icmp .ne 10, 3) := by decide +kernel
theorem dX9_fault_14 : decode cX9_fault 14 = .ok (.aload_n 0, 1) := by decide +kernel
theorem dX9_fault_15 : decode cX9_fault 15 = .ok (.getfield 54, 3) := by decide +kernel
theorem dX9_fault_18 : decode cX9_fault 18 = .ok (.goto 4, 3) := by decide +kernel
theorem dX9_fault_21 : decode cX9_fault 21 = .ok (.iconst (-1), 1) := by decide +kernel
theorem dX9_fault_22 : decode cX9_fault 22 = .ok (.ireturn, 1) := by decide +kernel
theorem dX9_step_0 : decode cX9_step 0 = .ok (.aload_n 0, 1) := by decide +kernel
theorem dX9_step_1 : decode cX9_step 1 = .ok (.getfield 84, 3) := by decide +kernel
theorem dX9_step_4 : decode cX9_step 4 = .ok (.aload_n 0, 1) := by decide +kernel
theorem dX9_step_5 : decode cX9_step 5 = .ok (.getfield 12, 3) := by decide +kernel
theorem dX9_step_8 : decode cX9_step 8 = .ok (.invokevirtual 135, 3) := by decide +kernel
theorem dX9_step_11 : decode cX9_step 11 = .ok (.invokevirtual 168, 3) := by decide +kernel
theorem dX9_step_14 : decode cX9_step 14 = .ok (.aload_n 0, 1) := by decide +kernel
theorem dX9_step_15 : decode cX9_step 15 = .ok (.getfield 84, 3) := by decide +kernel
theorem dX9_step_18 : decode cX9_step 18 = .ok (.iconst 0, 1) := by decide +kernel
theorem dX9_step_19 : decode cX9_step 19 = .ok (.invokevirtual 172, 3) := by decide +kernel
theorem dX9_step_22 : decode cX9_step 22 = .ok (.istore_n 1, 1) := by decide +kernel
theorem dX9_step_23 : decode cX9_step 23 = .ok (.iload_n 1, 1) := by decide +kernel
theorem dX9_step_24 : decode cX9_step 24 = .ok (.iconst (-1), 1) := by decide +kernel
theorem dX9_step_25 : decode cX9_step 25 = .ok (.if_icmp .ne 5, 3) := by decide +kernel
theorem dX9_step_28 : decode cX9_step 28 = .ok (.iconst (-1), 1) := by decide +kernel
theorem dX9_step_29 : decode cX9_step 29 = .ok (.ireturn, 1) := by decide +kernel
theorem dX9_step_30 : decode cX9_step 30 = .ok (.aload_n 0, 1) := by decide +kernel
theorem dX9_step_31 : decode cX9_step 31 = .ok (.iload_n 1, 1) := by decide +kernel
theorem dX9_step_32 : decode cX9_step 32 = .ok (.invokestatic 175, 3) := by decide +kernel
theorem dX9_step_35 : decode cX9_step 35 = .ok (.iload_n 1, 1) := by decide +kernel
theorem dX9_step_36 : decode cX9_step 36 = .ok (.invokestatic 178, 3) := by decide +kernel
theorem dX9_step_39 : decode cX9_step 39 = .ok (.invokevirtual 181, 3) := by decide +kernel
theorem dX9_step_42 : decode cX9_step 42 = .ok (.ireturn, 1) := by decide +kernel
theorem dX9_pack_0 : decode cX9_pack 0 = .ok (.aload_n 0, 1) := by decide +kernel
theorem dX9_pack_1 : decode cX9_pack 1 = .ok (.getfield 19, 3) := by decide +kernel
theorem dX9_pack_4 : decode cX9_pack 4 = .ok (.aload_n 0, 1) := by decide +kernel
theorem dX9_pack_5 : decode cX9_pack 5 = .ok (.getfield 12, 3) := by decide +kernel
theorem dX9_pack_8 : decode cX9_pack 8 = .ok (.invokevirtual 128, 3) := by decide +kernel
theorem dX9_pack_11 : decode cX9_pack 11 = .ok (.aload_n 0, 1) := by decide +kernel
theorem dX9_pack_12 : decode cX9_pack 12 = .ok (.iconst 0, 1) := by decide +kernel
theorem dX9_pack_13 : decode cX9_pack 13 = .ok (.putfield 71, 3) := by decide +kernel
theorem dX9_pack_16 : decode cX9_pack 16 = .ok (.iconst 0, 1) := by decide +kernel
theorem dX9_pack_17 : decode cX9_pack 17 = .ok (.istore_n 1, 1) := by decide +kernel
theorem dX9_pack_18 : decode cX9_pack 18 = .ok (.iload_n 1, 1) := by decide +kernel
theorem dX9_pack_19 : decode cX9_pack 19 = .ok (.sipush 240, 3) := by decide +kernel
theorem dX9_pack_22 : decode cX9_pack 22 = .ok (.if_icmp .ge 16, 3) := by decide +kernel
theorem dX9_pack_25 : decode cX9_pack 25 = .ok (.aload_n 0, 1) := by decide +kernel
theorem dX9_pack_26 : decode cX9_pack 26 = .ok (.invokevirtual 184, 3) := by decide +kernel
theorem dX9_pack_29 : decode cX9_pack 29 = .ok (.ifCond .eq 9, 3) := by decide +kernel
theorem dX9_pack_32 : decode cX9_pack 32 = .ok (.iinc 1 1, 3) := by decide +kernel
theorem dX9_pack_35 : decode cX9_pack 35 = .ok (.goto (-17), 3) := by decide +kernel
theorem dX9_pack_38 : decode cX9_pack 38 = .ok (.iload_n 1, 1) := by decide +kernel
theorem dX9_pack_39 : decode cX9_pack 39 = .ok (.ireturn, 1) := by decide +kernel
theorem dX9_replace_0 : decode cX9_replace 0 = .ok (.aload_n 0, 1) := by decide +kernel
theorem dX9_replace_1 : decode cX9_replace 1 = .ok (.getfield 12, 3) := by decide +kernel
theorem dX9_replace_4 : decode cX9_replace 4 = .ok (.iload_n 1, 1) := by decide +kernel
theorem dX9_replace_5 : decode cX9_replace 5 = .ok (.invokevirtual 188, 3) := by decide +kernel
theorem dX9_replace_8 : decode cX9_replace 8 = .ok (.ifCond .eq 14, 3) := by decide +kernel
theorem dX9_replace_11 : decode cX9_replace 11 = .ok (.aload_n 0, 1) := by decide +kernel
theorem dX9_replace_12 : decode cX9_replace 12 = .ok (.getfield 12, 3) := by decide +kernel
theorem dX9_replace_15 : decode cX9_replace 15 = .ok (.iload_n 2, 1) := by decide +kernel
theorem dX9_replace_16 : decode cX9_replace 16 = .ok (.invokevirtual 188, 3) := by decide +kernel
theorem dX9_replace_19 : decode cX9_replace 19 = .ok (.ifCond .ne 6, 3) := by decide +kernel
theorem dX9_replace_22 : decode cX9_replace 22 = .ok (.bipush (-2), 2) := by decide +kernel
theorem dX9_replace_24 : decode cX9_replace 24 = .ok (.ireturn, 1) := by decide +kernel
theorem dX9_replace_25 : decode cX9_replace 25 = .ok (.aload_n 0, 1) := by decide +kernel
theorem dX9_replace_26 : decode cX9_replace 26 = .ok (.getfield 84, 3) := by decide +kernel
theorem dX9_replace_29 : decode cX9_replace 29 = .ok (.aload_n 0, 1) := by decide +kernel
theorem dX9_replace_30 : decode cX9_replace 30 = .ok (.getfield 12, 3) := by decide +kernel
theorem dX9_replace_33 : decode cX9_replace 33 = .ok (.invokevirtual 135, 3) := by decide +kernel
theorem dX9_replace_36 : decode cX9_replace 36 = .ok (.invokevirtual 168, 3) := by decide +kernel
theorem dX9_replace_39 : decode cX9_replace 39 = .ok (.aload_n 0, 1) := by decide +kernel
theorem dX9_replace_40 : decode cX9_replace 40 = .ok (.getfield 84, 3) := by decide +kernel
theorem dX9_replace_43 : decode cX9_replace 43 = .ok (.iload_n 1, 1) := by decide +kernel
theorem dX9_replace_44 : decode cX9_replace 44 = .ok (.iload_n 2, 1) := by decide +kernel
theorem dX9_replace_45 : decode cX9_replace 45 = .ok (.invokevirtual 191, 3) := by decide +kernel
theorem dX9_replace_48 : decode cX9_replace 48 = .ok (.ifCond .ne 6, 3) := by decide +kernel
theorem dX9_replace_51 : decode cX9_replace 51 = .ok (.bipush (-5), 2) := by decide +kernel
theorem dX9_replace_53 : decode cX9_replace 53 = .ok (.ireturn, 1) := by decide +kernel
theorem dX9_replace_54 : decode cX9_replace 54 = .ok (.aload_n 0, 1) := by decide +kernel
theorem dX9_replace_55 : decode cX9_replace 55 = .ok (.iload_n 1, 1) := by decide +kernel
theorem dX9_replace_56 : decode cX9_replace 56 = .ok (.iload_n 2, 1) := by decide +kernel
theorem dX9_replace_57 : decode cX9_replace 57 = .ok (.invokevirtual 181, 3) := by decide +kernel
theorem dX9_replace_60 : decode cX9_replace 60 = .ok (.ireturn, 1) := by decide +kernel
theorem dX9_drop_0 : decode cX9_drop 0 = .ok (.aload_n 0, 1) := by decide +kernel
theorem dX9_drop_1 : decode cX9_drop 1 = .ok (.getfield 12, 3) := by decide +kernel
theorem dX9_drop_4 : decode cX9_drop 4 = .ok (.iload_n 1, 1) := by decide +kernel
theorem dX9_drop_5 : decode cX9_drop 5 = .ok (.invokevirtual 194, 3) := by decide +kernel
theorem dX9_drop_8 : decode cX9_drop 8 = .ok (.ifCond .ne 6, 3) := by decide +kernel
theorem dX9_drop_11 : decode cX9_drop 11 = .ok (.bipush (-2), 2) := by decide +kernel
theorem dX9_drop_13 : decode cX9_drop 13 = .ok (.ireturn, 1) := by decide +kernel
theorem dX9_drop_14 : decode cX9_drop 14 = .ok (.aload_n 0, 1) := by decide +kernel
theorem dX9_drop_15 : decode cX9_drop 15 = .ok (.getfield 12, 3) := by decide +kernel
theorem dX9_drop_18 : decode cX9_drop 18 = .ok (.iload_n 1, 1) := by decide +kernel
theorem dX9_drop_19 : decode cX9_drop 19 = .ok (.invokevirtual 197, 3) := by decide +kernel
theorem dX9_drop_22 : decode cX9_drop 22 = .ok (.ifCond .ne 6, 3) := by decide +kernel
theorem dX9_drop_25 : decode cX9_drop 25 = .ok (.bipush (-5), 2) := by decide +kernel
theorem dX9_drop_27 : decode cX9_drop 27 = .ok (.ireturn, 1) := by decide +kernel
theorem dX9_drop_28 : decode cX9_drop 28 = .ok (.aload_n 0, 1) := by decide +kernel
theorem dX9_drop_29 : decode cX9_drop 29 = .ok (.getfield 19, 3) := by decide +kernel
theorem dX9_drop_32 : decode cX9_drop 32 = .ok (.aload_n 0, 1) := by decide +kernel
theorem dX9_drop_33 : decode cX9_drop 33 = .ok (.getfield 12, 3) := by decide +kernel
theorem dX9_drop_36 : decode cX9_drop 36 = .ok (.invokevirtual 128, 3) := by decide +kernel
theorem dX9_drop_39 : decode cX9_drop 39 = .ok (.aload_n 0, 1) := by decide +kernel
theorem dX9_drop_40 : decode cX9_drop 40 = .ok (.getfield 12, 3) := by decide +kernel
theorem dX9_drop_43 : decode cX9_drop 43 = .ok (.iload_n 1, 1) := by decide +kernel
theorem dX9_drop_44 : decode cX9_drop 44 = .ok (.invokevirtual 200, 3) := by decide +kernel
theorem dX9_drop_47 : decode cX9_drop 47 = .ok (.aload_n 0, 1) := by decide +kernel
theorem dX9_drop_48 : decode cX9_drop 48 = .ok (.iconst 0, 1) := by decide +kernel
theorem dX9_drop_49 : decode cX9_drop 49 = .ok (.putfield 71, 3) := by decide +kernel
theorem dX9_drop_52 : decode cX9_drop 52 = .ok (.aload_n 0, 1) := by decide +kernel
theorem dX9_drop_53 : decode cX9_drop 53 = .ok (.getfield 12, 3) := by decide +kernel
theorem dX9_drop_56 : decode cX9_drop 56 = .ok (.invokevirtual 203, 3) := by decide +kernel
theorem dX9_drop_59 : decode cX9_drop 59 = .ok (.ireturn, 1) := by decide +kernel
theorem dX9_trim_0 : decode cX9_trim 0 = .ok (.aload_n 0, 1) := by decide +kernel
theorem dX9_trim_1 : decode cX9_trim 1 = .ok (.getfield 19, 3) := by decide +kernel
theorem dX9_trim_4 : decode cX9_trim 4 = .ok (.aload_n 0, 1) := by decide +kernel
theorem dX9_trim_5 : decode cX9_trim 5 = .ok (.getfield 12, 3) := by decide +kernel
theorem dX9_trim_8 : decode cX9_trim 8 = .ok (.invokevirtual 128, 3) := by decide +kernel
theorem dX9_trim_11 : decode cX9_trim 11 = .ok (.aload_n 0, 1) := by decide +kernel
theorem dX9_trim_12 : decode cX9_trim 12 = .ok (.iconst 0, 1) := by decide +kernel
theorem dX9_trim_13 : decode cX9_trim 13 = .ok (.putfield 71, 3) := by decide +kernel
theorem dX9_trim_16 : decode cX9_trim 16 = .ok (.iconst 0, 1) := by decide +kernel
theorem dX9_trim_17 : decode cX9_trim 17 = .ok (.istore_n 1, 1) := by decide +kernel
theorem dX9_trim_18 : decode cX9_trim 18 = .ok (.iconst 0, 1) := by decide +kernel
theorem dX9_trim_19 : decode cX9_trim 19 = .ok (.istore_n 2, 1) := by decide +kernel
theorem dX9_trim_20 : decode cX9_trim 20 = .ok (.iload_n 2, 1) := by decide +kernel
theorem dX9_trim_21 : decode cX9_trim 21 = .ok (.bipush 60, 2) := by decide +kernel
theorem dX9_trim_23 : decode cX9_trim 23 = .ok (.if_icmp .ge 35, 3) := by decide +kernel
theorem dX9_trim_26 : decode cX9_trim 26 = .ok (.aload_n 0, 1) := by decide +kernel
theorem dX9_trim_27 : decode cX9_trim 27 = .ok (.getfield 12, 3) := by decide +kernel
theorem dX9_trim_30 : decode cX9_trim 30 = .ok (.invokevirtual 204, 3) := by decide +kernel
theorem dX9_trim_33 : decode cX9_trim 33 = .ok (.istore_n 3, 1) := by decide +kernel
theorem dX9_trim_34 : decode cX9_trim 34 = .ok (.iload_n 3, 1) := by decide +kernel
theorem dX9_trim_35 : decode cX9_trim 35 = .ok (.iconst (-1), 1) := by decide +kernel
theorem dX9_trim_36 : decode cX9_trim 36 = .ok (.if_icmp .ne 5, 3) := by decide +kernel
theorem dX9_trim_39 : decode cX9_trim 39 = .ok (.iload_n 1, 1) := by decide +kernel
theorem dX9_trim_40 : decode cX9_trim 40 = .ok (.ireturn, 1) := by decide +kernel
theorem dX9_trim_41 : decode cX9_trim 41 = .ok (.aload_n 0, 1) := by decide +kernel
theorem dX9_trim_42 : decode cX9_trim 42 = .ok (.getfield 12, 3) := by decide +kernel
theorem dX9_trim_45 : decode cX9_trim 45 = .ok (.iload_n 3, 1) := by decide +kernel
theorem dX9_trim_46 : decode cX9_trim 46 = .ok (.invokevirtual 200, 3) := by decide +kernel
theorem dX9_trim_49 : decode cX9_trim 49 = .ok (.iinc 1 1, 3) := by decide +kernel
theorem dX9_trim_52 : decode cX9_trim 52 = .ok (.iinc 2 1, 3) := by decide +kernel
theorem dX9_trim_55 : decode cX9_trim 55 = .ok (.goto (-35), 3) := by decide +kernel
theorem dX9_trim_58 : decode cX9_trim 58 = .ok (.iload_n 1, 1) := by decide +kernel
theorem dX9_trim_59 : decode cX9_trim 59 = .ok (.ireturn, 1) := by decide +kernel
theorem dX9_unpack_0 : decode cX9_unpack 0 = .ok (.aload_n 0, 1) := by decide +kernel
theorem dX9_unpack_1 : decode cX9_unpack 1 = .ok (.invokevirtual 144, 3) := by decide +kernel
theorem dX9_unpack_4 : decode cX9_unpack 4 = .ok (.aload_n 0, 1) := by decide +kernel
theorem dX9_unpack_5 : decode cX9_unpack 5 = .ok (.getfield 19, 3) := by decide +kernel
theorem dX9_unpack_8 : decode cX9_unpack 8 = .ok (.aload_n 0, 1) := by decide +kernel
theorem dX9_unpack_9 : decode cX9_unpack 9 = .ok (.getfield 12, 3) := by decide +kernel
theorem dX9_unpack_12 : decode cX9_unpack 12 = .ok (.invokevirtual 128, 3) := by decide +kernel
theorem dX9_unpack_15 : decode cX9_unpack 15 = .ok (.aload_n 0, 1) := by decide +kernel
theorem dX9_unpack_16 : decode cX9_unpack 16 = .ok (.getfield 12, 3) := by decide +kernel
theorem dX9_unpack_19 : decode cX9_unpack 19 = .ok (.invokevirtual 132, 3) := by decide +kernel
theorem dX9_unpack_22 : decode cX9_unpack 22 = .ok (.iconst 0, 1) := by decide +kernel
theorem dX9_unpack_23 : decode cX9_unpack 23 = .ok (.istore_n 1, 1) := by decide +kernel
theorem dX9_unpack_24 : decode cX9_unpack 24 = .ok (.iload_n 1, 1) := by decide +kernel
theorem dX9_unpack_25 : decode cX9_unpack 25 = .ok (.aload_n 0, 1) := by decide +kernel
theorem dX9_unpack_26 : decode cX9_unpack 26 = .ok (.getfield 67, 3) := by decide +kernel
theorem dX9_unpack_29 : decode cX9_unpack 29 = .ok (.invokevirtual 207, 3) := by decide +kernel
theorem dX9_unpack_32 : decode cX9_unpack 32 = .ok (.if_icmp .ge 27, 3) := by decide +kernel
theorem dX9_unpack_35 : decode cX9_unpack 35 = .ok (.aload_n 0, 1) := by decide +kernel
theorem dX9_unpack_36 : decode cX9_unpack 36 = .ok (.getfield 12, 3) := by decide +kernel
theorem dX9_unpack_39 : decode cX9_unpack 39 = .ok (.invokevirtual 135, 3) := by decide +kernel
theorem dX9_unpack_42 : decode cX9_unpack 42 = .ok (.aload_n 0, 1) := by decide +kernel
theorem dX9_unpack_43 : decode cX9_unpack 43 = .ok (.getfield 67, 3) := by decide +kernel
theorem dX9_unpack_46 : decode cX9_unpack 46 = .ok (.iload_n 1, 1) := by decide +kernel
theorem dX9_unpack_47 : decode cX9_unpack 47 = .ok (.invokevirtual 208, 3) := by decide +kernel
theorem dX9_unpack_50 : decode cX9_unpack 50 = .ok (.invokevirtual 211, 3) := by decide +kernel
theorem dX9_unpack_53 : decode cX9_unpack 53 = .ok (.iinc 1 1, 3) := by decide +kernel
theorem dX9_unpack_56 : decode cX9_unpack 56 = .ok (.goto (-32), 3) := by decide +kernel
theorem dX9_unpack_59 : decode cX9_unpack 59 = .ok (.aload_n 0, 1) := by decide +kernel
theorem dX9_unpack_60 : decode cX9_unpack 60 = .ok (.iconst 0, 1) := by decide +kernel
theorem dX9_unpack_61 : decode cX9_unpack 61 = .ok (.putfield 71, 3) := by decide +kernel
theorem dX9_unpack_64 : decode cX9_unpack 64 = .ok (.aload_n 0, 1) := by decide +kernel
theorem dX9_unpack_65 : decode cX9_unpack 65 = .ok (.getfield 12, 3) := by decide +kernel
theorem dX9_unpack_68 : decode cX9_unpack 68 = .ok (.invokevirtual 135, 3) := by decide +kernel
theorem dX9_unpack_71 : decode cX9_unpack 71 = .ok (.invokevirtual 105, 3) := by decide +kernel
theorem dX9_unpack_74 : decode cX9_unpack 74 = .ok (.ireturn, 1) := by decide +kernel
theorem dX9_put_0 : decode cX9_put 0 = .ok (.iload_n 2, 1) := by decide +kernel
theorem dX9_put_1 : decode cX9_put 1 = .ok (.invokestatic 214, 3) := by decide +kernel
theorem dX9_put_4 : decode cX9_put 4 = .ok (.ifCond .ne 6, 3) := by decide +kernel
theorem dX9_put_7 : decode cX9_put 7 = .ok (.bipush (-2), 2) := by decide +kernel
theorem dX9_put_9 : decode cX9_put 9 = .ok (.ireturn, 1) := by decide +kernel
theorem dX9_put_10 : decode cX9_put 10 = .ok (.aload_n 0, 1) := by decide +kernel
theorem dX9_put_11 : decode cX9_put 11 = .ok (.invokevirtual 144, 3) := by decide +kernel
theorem dX9_put_14 : decode cX9_put 14 = .ok (.aload_n 0, 1) := by decide +kernel
theorem dX9_put_15 : decode cX9_put 15 = .ok (.getfield 67, 3) := by decide +kernel
theorem dX9_put_18 : decode cX9_put 18 = .ok (.iload_n 1, 1) := by decide +kernel
theorem dX9_put_19 : decode cX9_put 19 = .ok (.invokevirtual 217, 3) := by decide +kernel
theorem dX9_put_22 : decode cX9_put 22 = .ok (.ifCond .ne 6, 3) := by decide +kernel
theorem dX9_put_25 : decode cX9_put 25 = .ok (.bipush (-5), 2) := by decide +kernel
theorem dX9_put_27 : decode cX9_put 27 = .ok (.ireturn, 1) := by decide +kernel
theorem dX9_put_28 : decode cX9_put 28 = .ok (.aload_n 0, 1) := by decide +kernel
theorem dX9_put_29 : decode cX9_put 29 = .ok (.getfield 67, 3) := by decide +kernel
theorem dX9_put_32 : decode cX9_put 32 = .ok (.iload_n 1, 1) := by decide +kernel
theorem dX9_put_33 : decode cX9_put 33 = .ok (.invokevirtual 208, 3) := by decide +kernel
theorem dX9_put_36 : decode cX9_put 36 = .ok (.istore_n 3, 1) := by decide +kernel
theorem dX9_put_37 : decode cX9_put 37 = .ok (.aload_n 0, 1) := by decide +kernel
theorem dX9_put_38 : decode cX9_put 38 = .ok (.getfield 19, 3) := by decide +kernel
theorem dX9_put_41 : decode cX9_put 41 = .ok (.aload_n 0, 1) := by decide +kernel
theorem dX9_put_42 : decode cX9_put 42 = .ok (.getfield 12, 3) := by decide +kernel
theorem dX9_put_45 : decode cX9_put 45 = .ok (.invokevirtual 128, 3) := by decide +kernel
theorem dX9_put_48 : decode cX9_put 48 = .ok (.aload_n 0, 1) := by decide +kernel
theorem dX9_put_49 : decode cX9_put 49 = .ok (.getfield 12, 3) := by decide +kernel
theorem dX9_put_52 : decode cX9_put 52 = .ok (.iload_n 1, 1) := by decide +kernel
theorem dX9_put_53 : decode cX9_put 53 = .ok (.aload_n 0, 1) := by decide +kernel
theorem dX9_put_54 : decode cX9_put 54 = .ok (.getfield 60, 3) := by decide +kernel
theorem dX9_put_57 : decode cX9_put 57 = .ok (.invokevirtual 220, 3) := by decide +kernel
theorem dX9_put_60 : decode cX9_put 60 = .ok (.istore 4, 2) := by decide +kernel
theorem dX9_put_62 : decode cX9_put 62 = .ok (.aload_n 0, 1) := by decide +kernel
theorem dX9_put_63 : decode cX9_put 63 = .ok (.getfield 12, 3) := by decide +kernel
theorem dX9_put_66 : decode cX9_put 66 = .ok (.iload_n 1, 1) := by decide +kernel
theorem dX9_put_67 : decode cX9_put 67 = .ok (.iconst 1, 1) := by decide +kernel
theorem dX9_put_68 : decode cX9_put 68 = .ok (.iadd, 1) := by decide +kernel
theorem dX9_put_69 : decode cX9_put 69 = .ok (.aload_n 0, 1) := by decide +kernel
theorem dX9_put_70 : decode cX9_put 70 = .ok (.getfield 60, 3) := by decide +kernel
theorem dX9_put_73 : decode cX9_put 73 = .ok (.invokevirtual 220, 3) := by decide +kernel
theorem dX9_put_76 : decode cX9_put 76 = .ok (.pop, 1) := by decide +kernel
theorem dX9_put_77 : decode cX9_put 77 = .ok (.aload_n 0, 1) := by decide +kernel
theorem dX9_put_78 : decode cX9_put 78 = .ok (.getfield 12, 3) := by decide +kernel
theorem dX9_put_81 : decode cX9_put 81 = .ok (.invokevirtual 135, 3) := by decide +kernel
theorem dX9_put_84 : decode cX9_put 84 = .ok (.iload 4, 2) := by decide +kernel
theorem dX9_put_86 : decode cX9_put 86 = .ok (.iload_n 2, 1) := by decide +kernel
theorem dX9_put_87 : decode cX9_put 87 = .ok (.invokevirtual 224, 3) := by decide +kernel
theorem dX9_put_90 : decode cX9_put 90 = .ok (.aload_n 0, 1) := by decide +kernel
theorem dX9_put_91 : decode cX9_put 91 = .ok (.iconst 0, 1) := by decide +kernel
theorem dX9_put_92 : decode cX9_put 92 = .ok (.putfield 71, 3) := by decide +kernel
theorem dX9_put_95 : decode cX9_put 95 = .ok (.iload_n 3, 1) := by decide +kernel
theorem dX9_put_96 : decode cX9_put 96 = .ok (.ireturn, 1) := by decide +kernel
theorem dX9_cut_0 : decode cX9_cut 0 = .ok (.iload_n 2, 1) := by decide +kernel
theorem dX9_cut_1 : decode cX9_cut 1 = .ok (.iconst 1, 1) := by decide +kernel
theorem dX9_cut_2 : decode cX9_cut 2 = .ok (.if_icmp .ge 6, 3) := by decide +kernel
theorem dX9_cut_5 : decode cX9_cut 5 = .ok (.bipush (-3), 2) := by decide +kernel
theorem dX9_cut_7 : decode cX9_cut 7 = .ok (.ireturn, 1) := by decide +kernel
theorem dX9_cut_8 : decode cX9_cut 8 = .ok (.aload_n 0, 1) := by decide +kernel
theorem dX9_cut_9 : decode cX9_cut 9 = .ok (.iload_n 1, 1) := by decide +kernel
theorem dX9_cut_10 : decode cX9_cut 10 = .ok (.iload_n 2, 1) := by decide +kernel
theorem dX9_cut_11 : decode cX9_cut 11 = .ok (.invokevirtual 227, 3) := by decide +kernel
theorem dX9_cut_14 : decode cX9_cut 14 = .ok (.ifCond .ne 6, 3) := by decide +kernel
theorem dX9_cut_17 : decode cX9_cut 17 = .ok (.bipush (-5), 2) := by decide +kernel
theorem dX9_cut_19 : decode cX9_cut 19 = .ok (.ireturn, 1) := by decide +kernel
theorem dX9_cut_20 : decode cX9_cut 20 = .ok (.aload_n 0, 1) := by decide +kernel
theorem dX9_cut_21 : decode cX9_cut 21 = .ok (.getfield 19, 3) := by decide +kernel
theorem dX9_cut_24 : decode cX9_cut 24 = .ok (.aload_n 0, 1) := by decide +kernel
theorem dX9_cut_25 : decode cX9_cut 25 = .ok (.getfield 12, 3) := by decide +kernel
theorem dX9_cut_28 : decode cX9_cut 28 = .ok (.invokevirtual 128, 3) := by decide +kernel
theorem dX9_cut_31 : decode cX9_cut 31 = .ok (.aload_n 0, 1) := by decide +kernel
theorem dX9_cut_32 : decode cX9_cut 32 = .ok (.getfield 12, 3) := by decide +kernel
theorem dX9_cut_35 : decode cX9_cut 35 = .ok (.iload_n 1, 1) := by decide +kernel
theorem dX9_cut_36 : decode cX9_cut 36 = .ok (.aload_n 0, 1) := by decide +kernel
theorem dX9_cut_37 : decode cX9_cut 37 = .ok (.getfield 60, 3) := by decide +kernel
theorem dX9_cut_40 : decode cX9_cut 40 = .ok (.invokevirtual 220, 3) := by decide +kernel
theorem dX9_cut_43 : decode cX9_cut 43 = .ok (.istore_n 3, 1) := by decide +kernel
theorem dX9_cut_44 : decode cX9_cut 44 = .ok (.aload_n 0, 1) := by decide +kernel
theorem dX9_cut_45 : decode cX9_cut 45 = .ok (.getfield 12, 3) := by decide +kernel
theorem dX9_cut_48 : decode cX9_cut 48 = .ok (.iload_n 1, 1) := by decide +kernel
theorem dX9_cut_49 : decode cX9_cut 49 = .ok (.iload_n 2, 1) := by decide +kernel
theorem dX9_cut_50 : decode cX9_cut 50 = .ok (.iadd, 1) := by decide +kernel
theorem dX9_cut_51 : decode cX9_cut 51 = .ok (.aload_n 0, 1) := by decide +kernel
theorem dX9_cut_52 : decode cX9_cut 52 = .ok (.getfield 60, 3) := by decide +kernel
theorem dX9_cut_55 : decode cX9_cut 55 = .ok (.invokevirtual 220, 3) := by decide +kernel
theorem dX9_cut_58 : decode cX9_cut 58 = .ok (.istore 4, 2) := by decide +kernel
theorem dX9_cut_60 : decode cX9_cut 60 = .ok (.aload_n 0, 1) := by decide +kernel
theorem dX9_cut_61 : decode cX9_cut 61 = .ok (.getfield 12, 3) := by decide +kernel
theorem dX9_cut_64 : decode cX9_cut 64 = .ok (.invokevirtual 135, 3) := by decide +kernel
theorem dX9_cut_67 : decode cX9_cut 67 = .ok (.iload_n 3, 1) := by decide +kernel
theorem dX9_cut_68 : decode cX9_cut 68 = .ok (.iload 4, 2) := by decide +kernel
theorem dX9_cut_70 : decode cX9_cut 70 = .ok (.iload_n 3, 1) := by decide +kernel
theorem dX9_cut_71 : decode cX9_cut 71 = .ok (.isub, 1) := by decide +kernel
theorem dX9_cut_72 : decode cX9_cut 72 = .ok (.invokevirtual 231, 3) := by decide +kernel
theorem dX9_cut_75 : decode cX9_cut 75 = .ok (.aload_n 0, 1) := by decide +kernel
theorem dX9_cut_76 : decode cX9_cut 76 = .ok (.iconst 0, 1) := by decide +kernel
theorem dX9_cut_77 : decode cX9_cut 77 = .ok (.putfield 71, 3) := by decide +kernel
theorem dX9_cut_80 : decode cX9_cut 80 = .ok (.aload_n 0, 1) := by decide +kernel
theorem dX9_cut_81 : decode cX9_cut 81 = .ok (.invokevirtual 165, 3) := by decide +kernel
theorem dX9_cut_84 : decode cX9_cut 84 = .ok (.ireturn, 1) := by decide +kernel
theorem dX9_insert_0 : decode cX9_insert 0 = .ok (.iload_n 2, 1) := by decide +kernel
theorem dX9_insert_1 : decode cX9_insert 1 = .ok (.invokestatic 214, 3) := by decide +kernel
theorem dX9_insert_4 : decode cX9_insert 4 = .ok (.ifCond .ne 6, 3) := by decide +kernel
theorem dX9_insert_7 : decode cX9_insert 7 = .ok (.bipush (-2), 2) := by decide +kernel
theorem dX9_insert_9 : decode cX9_insert 9 = .ok (.ireturn, 1) := by decide +kernel
theorem dX9_insert_10 : decode cX9_insert 10 = .ok (.aload_n 0, 1) := by decide +kernel
theorem dX9_insert_11 : decode cX9_insert 11 = .ok (.invokevirtual 144, 3) := by decide +kernel
theorem dX9_insert_14 : decode cX9_insert 14 = .ok (.iload_n 1, 1) := by decide +kernel
theorem dX9_insert_15 : decode cX9_insert 15 = .ok (.ifCond .lt 14, 3) := by decide +kernel
theorem dX9_insert_18 : decode cX9_insert 18 = .ok (.iload_n 1, 1) := by decide +kernel
theorem dX9_insert_19 : decode cX9_insert 19 = .ok (.aload_n 0, 1) := by decide +kernel
theorem dX9_insert_20 : decode cX9_insert 20 = .ok (.getfield 67, 3) := by decide +kernel
theorem dX9_insert_23 : decode cX9_insert 23 = .ok (.invokevirtual 207, 3) := by decide +kernel
theorem dX9_insert_26 : decode cX9_insert 26 = .ok (.if_icmp .le 6, 3) := by decide +kernel
theorem dX9_insert_29 : decode cX9_insert 29 = .ok (.bipush (-5), 2) := by decide +kernel
theorem dX9_insert_31 : decode cX9_insert 31 = .ok (.ireturn, 1) := by decide +kernel
theorem dX9_insert_32 : decode cX9_insert 32 = .ok (.aload_n 0, 1) := by decide +kernel
theorem dX9_insert_33 : decode cX9_insert 33 = .ok (.getfield 67, 3) := by decide +kernel
theorem dX9_insert_36 : decode cX9_insert 36 = .ok (.invokevirtual 207, 3) := by decide +kernel
theorem dX9_insert_39 : decode cX9_insert 39 = .ok (.sipush 240, 3) := by decide +kernel
theorem dX9_insert_42 : decode cX9_insert 42 = .ok (.if_icmp .ne 6, 3) := by decide +kernel
theorem dX9_insert_45 : decode cX9_insert 45 = .ok (.bipush (-4), 2) := by decide +kernel
theorem dX9_insert_47 : decode cX9_insert 47 = .ok (.ireturn, 1) := by decide +kernel
theorem dX9_insert_48 : decode cX9_insert 48 = .ok (.aload_n 0, 1) := by decide +kernel
theorem dX9_insert_49 : decode cX9_insert 49 = .ok (.getfield 19, 3) := by decide +kernel
theorem dX9_insert_52 : decode cX9_insert 52 = .ok (.aload_n 0, 1) := by decide +kernel
theorem dX9_insert_53 : decode cX9_insert 53 = .ok (.getfield 12, 3) := by decide +kernel
theorem dX9_insert_56 : decode cX9_insert 56 = .ok (.invokevirtual 128, 3) := by decide +kernel
theorem dX9_insert_59 : decode cX9_insert 59 = .ok (.aload_n 0, 1) := by decide +kernel
theorem dX9_insert_60 : decode cX9_insert 60 = .ok (.getfield 12, 3) := by decide +kernel
theorem dX9_insert_63 : decode cX9_insert 63 = .ok (.invokevirtual 135, 3) := by decide +kernel
theorem dX9_insert_66 : decode cX9_insert 66 = .ok (.aload_n 0, 1) := by decide +kernel
theorem dX9_insert_67 : decode cX9_insert 67 = .ok (.getfield 12, 3) := by decide +kernel
theorem dX9_insert_70 : decode cX9_insert 70 = .ok (.iload_n 1, 1) := by decide +kernel
theorem dX9_insert_71 : decode cX9_insert 71 = .ok (.aload_n 0, 1) := by decide +kernel
theorem dX9_insert_72 : decode cX9_insert 72 = .ok (.getfield 60, 3) := by decide +kernel
theorem dX9_insert_75 : decode cX9_insert 75 = .ok (.invokevirtual 220, 3) := by decide +kernel
theorem dX9_insert_78 : decode cX9_insert 78 = .ok (.iload_n 2, 1) := by decide +kernel
theorem dX9_insert_79 : decode cX9_insert 79 = .ok (.invokevirtual 234, 3) := by decide +kernel
theorem dX9_insert_82 : decode cX9_insert 82 = .ok (.aload_n 0, 1) := by decide +kernel
theorem dX9_insert_83 : decode cX9_insert 83 = .ok (.iconst 0, 1) := by decide +kernel
theorem dX9_insert_84 : decode cX9_insert 84 = .ok (.putfield 71, 3) := by decide +kernel
theorem dX9_insert_87 : decode cX9_insert 87 = .ok (.aload_n 0, 1) := by decide +kernel
theorem dX9_insert_88 : decode cX9_insert 88 = .ok (.invokevirtual 165, 3) := by decide +kernel
theorem dX9_insert_91 : decode cX9_insert 91 = .ok (.ireturn, 1) := by decide +kernel
theorem dX9_sign_0 : decode cX9_sign 0 = .ok (.iload_n 1, 1) := by decide +kernel
theorem dX9_sign_1 : decode cX9_sign 1 = .ok (.ifCond .ge 8, 3) := by decide +kernel
theorem dX9_sign_4 : decode cX9_sign 4 = .ok (.bipush (-3), 2) := by decide +kernel
theorem dX9_sign_6 : decode cX9_sign 6 = .ok (.goto 14, 3) := by decide +kernel
theorem dX9_sign_9 : decode cX9_sign 9 = .ok (.aload_n 0, 1) := by decide +kernel
theorem dX9_sign_10 : decode cX9_sign 10 = .ok (.getfield 12, 3) := by decide +kernel
theorem dX9_sign_13 : decode cX9_sign 13 = .ok (.invokevirtual 135, 3) := by decide +kernel
theorem dX9_sign_16 : decode cX9_sign 16 = .ok (.iload_n 1, 1) := by decide +kernel
theorem dX9_sign_17 : decode cX9_sign 17 = .ok (.invokevirtual 237, 3) := by decide +kernel
theorem dX9_sign_20 : decode cX9_sign 20 = .ok (.ireturn, 1) := by decide +kernel
theorem dX9_rule_0 : decode cX9_rule 0 = .ok (.aload_n 0, 1) := by decide +kernel
theorem dX9_rule_1 : decode cX9_rule 1 = .ok (.getfield 12, 3) := by decide +kernel
theorem dX9_rule_4 : decode cX9_rule 4 = .ok (.iload_n 1, 1) := by decide +kernel
theorem dX9_rule_5 : decode cX9_rule 5 = .ok (.invokevirtual 188, 3) := by decide +kernel
theorem dX9_rule_8 : decode cX9_rule 8 = .ok (.ifCond .ne 6, 3) := by decide +kernel
theorem dX9_rule_11 : decode cX9_rule 11 = .ok (.bipush (-2), 2) := by decide +kernel
theorem dX9_rule_13 : decode cX9_rule 13 = .ok (.ireturn, 1) := by decide +kernel
theorem dX9_rule_14 : decode cX9_rule 14 = .ok (.aload_n 0, 1) := by decide +kernel
theorem dX9_rule_15 : decode cX9_rule 15 = .ok (.invokevirtual 144, 3) := by decide +kernel
theorem dX9_rule_18 : decode cX9_rule 18 = .ok (.iload_n 2, 1) := by decide +kernel
theorem dX9_rule_19 : decode cX9_rule 19 = .ok (.tableswitch 94 0 5 #[37, 49, 58, 67, 76, 88], 37) := by decide +kernel
theorem dX9_rule_56 : decode cX9_rule 56 = .ok (.aload_n 0, 1) := by decide +kernel
theorem dX9_rule_57 : decode cX9_rule 57 = .ok (.getfield 12, 3) := by decide +kernel
theorem dX9_rule_60 : decode cX9_rule 60 = .ok (.iload_n 1, 1) := by decide +kernel
theorem dX9_rule_61 : decode cX9_rule 61 = .ok (.invokevirtual 240, 3) := by decide +kernel
theorem dX9_rule_64 : decode cX9_rule 64 = .ok (.invokevirtual 105, 3) := by decide +kernel
theorem dX9_rule_67 : decode cX9_rule 67 = .ok (.ireturn, 1) := by decide +kernel
theorem dX9_rule_68 : decode cX9_rule 68 = .ok (.aload_n 0, 1) := by decide +kernel
theorem dX9_rule_69 : decode cX9_rule 69 = .ok (.getfield 60, 3) := by decide +kernel
theorem dX9_rule_72 : decode cX9_rule 72 = .ok (.iload_n 1, 1) := by decide +kernel
theorem dX9_rule_73 : decode cX9_rule 73 = .ok (.invokevirtual 244, 3) := by decide +kernel
theorem dX9_rule_76 : decode cX9_rule 76 = .ok (.ireturn, 1) := by decide +kernel
theorem dX9_rule_77 : decode cX9_rule 77 = .ok (.aload_n 0, 1) := by decide +kernel
theorem dX9_rule_78 : decode cX9_rule 78 = .ok (.getfield 60, 3) := by decide +kernel
theorem dX9_rule_81 : decode cX9_rule 81 = .ok (.iload_n 1, 1) := by decide +kernel
theorem dX9_rule_82 : decode cX9_rule 82 = .ok (.invokevirtual 247, 3) := by decide +kernel
theorem dX9_rule_85 : decode cX9_rule 85 = .ok (.ireturn, 1) := by decide +kernel
theorem dX9_rule_86 : decode cX9_rule 86 = .ok (.aload_n 0, 1) := by decide +kernel
theorem dX9_rule_87 : decode cX9_rule 87 = .ok (.getfield 12, 3) := by decide +kernel
theorem dX9_rule_90 : decode cX9_rule 90 = .ok (.iload_n 1, 1) := by decide +kernel
theorem dX9_rule_91 : decode cX9_rule 91 = .ok (.invokevirtual 250, 3) := by decide +kernel
theorem dX9_rule_94 : decode cX9_rule 94 = .ok (.ireturn, 1) := by decide +kernel
theorem dX9_rule_95 : decode cX9_rule 95 = .ok (.aload_n 0, 1) := by decide +kernel
theorem dX9_rule_96 : decode cX9_rule 96 = .ok (.getfield 12, 3) := by decide +kernel
theorem dX9_rule_99 : decode cX9_rule 99 = .ok (.invokevirtual 135, 3) := by decide +kernel
theorem dX9_rule_102 : decode cX9_rule 102 = .ok (.iload_n 1, 1) := by decide +kernel
theorem dX9_rule_103 : decode cX9_rule 103 = .ok (.invokevirtual 253, 3) := by decide +kernel
theorem dX9_rule_106 : decode cX9_rule 106 = .ok (.ireturn, 1) := by decide +kernel
theorem dX9_rule_107 : decode cX9_rule 107 = .ok (.aload_n 0, 1) := by decide +kernel
theorem dX9_rule_108 : decode cX9_rule 108 = .ok (.iload_n 1, 1) := by decide +kernel
theorem dX9_rule_109 : decode cX9_rule 109 = .ok (.invokevirtual 256, 3) := by decide +kernel
theorem dX9_rule_112 : decode cX9_rule 112 = .ok (.ireturn, 1) := by decide +kernel
theorem dX9_rule_113 : decode cX9_rule 113 = .ok (.aload_n 0, 1) := by decide +kernel
theorem dX9_rule_114 : decode cX9_rule 114 = .ok (.iload_n 1, 1) := by decide +kernel
theorem dX9_rule_115 : decode cX9_rule 115 = .ok (.iload_n 2, 1) := by decide +kernel
theorem dX9_rule_116 : decode cX9_rule 116 = .ok (.invokevirtual 259, 3) := by decide +kernel
theorem dX9_rule_119 : decode cX9_rule 119 = .ok (.ireturn, 1) := by decide +kernel
theorem dX9_word_0 : decode cX9_word 0 = .ok (.aload_n 0, 1) := by decide +kernel
theorem dX9_word_1 : decode cX9_word 1 = .ok (.getfield 12, 3) := by decide +kernel
theorem dX9_word_4 : decode cX9_word 4 = .ok (.iload_n 1, 1) := by decide +kernel
theorem dX9_word_5 : decode cX9_word 5 = .ok (.invokevirtual 188, 3) := by decide +kernel
theorem dX9_word_8 : decode cX9_word 8 = .ok (.ifCond .ne 6, 3) := by decide +kernel
theorem dX9_word_11 : decode cX9_word 11 = .ok (.bipush (-2), 2) := by decide +kernel
theorem dX9_word_13 : decode cX9_word 13 = .ok (.ireturn, 1) := by decide +kernel
theorem dX9_word_14 : decode cX9_word 14 = .ok (.iload_n 2, 1) := by decide +kernel
theorem dX9_word_15 : decode cX9_word 15 = .ok (.ifCond .ge 6, 3) := by decide +kernel
theorem dX9_word_18 : decode cX9_word 18 = .ok (.bipush (-3), 2) := by decide +kernel
theorem dX9_word_20 : decode cX9_word 20 = .ok (.ireturn, 1) := by decide +kernel
theorem dX9_word_21 : decode cX9_word 21 = .ok (.aload_n 0, 1) := by decide +kernel
theorem dX9_word_22 : decode cX9_word 22 = .ok (.invokevirtual 144, 3) := by decide +kernel
theorem dX9_word_25 : decode cX9_word 25 = .ok (.iload_n 2, 1) := by decide +kernel
theorem dX9_word_26 : decode cX9_word 26 = .ok (.aload_n 0, 1) := by decide +kernel
theorem dX9_word_27 : decode cX9_word 27 = .ok (.getfield 60, 3) := by decide +kernel
theorem dX9_word_30 : decode cX9_word 30 = .ok (.iload_n 1, 1) := by decide +kernel
theorem dX9_word_31 : decode cX9_word 31 = .ok (.invokevirtual 244, 3) := by decide +kernel
theorem dX9_word_34 : decode cX9_word 34 = .ok (.if_icmp .lt 5, 3) := by decide +kernel
theorem dX9_word_37 : decode cX9_word 37 = .ok (.iconst (-1), 1) := by decide +kernel
theorem dX9_word_38 : decode cX9_word 38 = .ok (.ireturn, 1) := by decide +kernel
theorem dX9_word_39 : decode cX9_word 39 = .ok (.aload_n 0, 1) := by decide +kernel
theorem dX9_word_40 : decode cX9_word 40 = .ok (.getfield 60, 3) := by decide +kernel
theorem dX9_word_43 : decode cX9_word 43 = .ok (.aload_n 0, 1) := by decide +kernel
theorem dX9_word_44 : decode cX9_word 44 = .ok (.getfield 12, 3) := by decide +kernel
theorem dX9_word_47 : decode cX9_word 47 = .ok (.iload_n 1, 1) := by decide +kernel
theorem dX9_word_48 : decode cX9_word 48 = .ok (.iload_n 2, 1) := by decide +kernel
theorem dX9_word_49 : decode cX9_word 49 = .ok (.bipush 60, 2) := by decide +kernel
theorem dX9_word_51 : decode cX9_word 51 = .ok (.invokevirtual 262, 3) := by decide +kernel
theorem dX9_word_54 : decode cX9_word 54 = .ok (.aload_n 0, 1) := by decide +kernel
theorem dX9_word_55 : decode cX9_word 55 = .ok (.getfield 60, 3) := by decide +kernel
theorem dX9_word_58 : decode cX9_word 58 = .ok (.invokevirtual 266, 3) := by decide +kernel
theorem dX9_word_61 : decode cX9_word 61 = .ok (.ireturn, 1) := by decide +kernel
theorem dX9_pairs_0 : decode cX9_pairs 0 = .ok (.aload_n 0, 1) := by decide +kernel
theorem dX9_pairs_1 : decode cX9_pairs 1 = .ok (.getfield 12, 3) := by decide +kernel
theorem dX9_pairs_4 : decode cX9_pairs 4 = .ok (.iload_n 1, 1) := by decide +kernel
theorem dX9_pairs_5 : decode cX9_pairs 5 = .ok (.invokevirtual 188, 3) := by decide +kernel
theorem dX9_pairs_8 : decode cX9_pairs 8 = .ok (.ifCond .eq 14, 3) := by decide +kernel
theorem dX9_pairs_11 : decode cX9_pairs 11 = .ok (.aload_n 0, 1) := by decide +kernel
theorem dX9_pairs_12 : decode cX9_pairs 12 = .ok (.getfield 12, 3) := by decide +kernel
theorem dX9_pairs_15 : decode cX9_pairs 15 = .ok (.iload_n 2, 1) := by decide +kernel
theorem dX9_pairs_16 : decode cX9_pairs 16 = .ok (.invokevirtual 188, 3) := by decide +kernel
theorem dX9_pairs_19 : decode cX9_pairs 19 = .ok (.ifCond .ne 6, 3) := by decide +kernel
theorem dX9_pairs_22 : decode cX9_pairs 22 = .ok (.bipush (-2), 2) := by decide +kernel
theorem dX9_pairs_24 : decode cX9_pairs 24 = .ok (.ireturn, 1) := by decide +kernel
theorem dX9_pairs_25 : decode cX9_pairs 25 = .ok (.aload_n 0, 1) := by decide +kernel
theorem dX9_pairs_26 : decode cX9_pairs 26 = .ok (.getfield 84, 3) := by decide +kernel
theorem dX9_pairs_29 : decode cX9_pairs 29 = .ok (.aload_n 0, 1) := by decide +kernel
theorem dX9_pairs_30 : decode cX9_pairs 30 = .ok (.getfield 12, 3) := by decide +kernel
theorem dX9_pairs_33 : decode cX9_pairs 33 = .ok (.invokevirtual 135, 3) := by decide +kernel
theorem dX9_pairs_36 : decode cX9_pairs 36 = .ok (.invokevirtual 168, 3) := by decide +kernel
theorem dX9_pairs_39 : decode cX9_pairs 39 = .ok (.aload_n 0, 1) := by decide +kernel
theorem dX9_pairs_40 : decode cX9_pairs 40 = .ok (.getfield 84, 3) := by decide +kernel
theorem dX9_pairs_43 : decode cX9_pairs 43 = .ok (.iload_n 1, 1) := by decide +kernel
theorem dX9_pairs_44 : decode cX9_pairs 44 = .ok (.iload_n 2, 1) := by decide +kernel
theorem dX9_pairs_45 : decode cX9_pairs 45 = .ok (.invokevirtual 191, 3) := by decide +kernel
theorem dX9_pairs_48 : decode cX9_pairs 48 = .ok (.ireturn, 1) := by decide +kernel
theorem dX9_pick_0 : decode cX9_pick 0 = .ok (.iload_n 1, 1) := by decide +kernel
theorem dX9_pick_1 : decode cX9_pick 1 = .ok (.ifCond .ge 6, 3) := by decide +kernel
theorem dX9_pick_4 : decode cX9_pick 4 = .ok (.bipush (-3), 2) := by decide +kernel
theorem dX9_pick_6 : decode cX9_pick 6 = .ok (.ireturn, 1) := by decide +kernel
theorem dX9_pick_7 : decode cX9_pick 7 = .ok (.aload_n 0, 1) := by decide +kernel
theorem dX9_pick_8 : decode cX9_pick 8 = .ok (.getfield 84, 3) := by decide +kernel
theorem dX9_pick_11 : decode cX9_pick 11 = .ok (.aload_n 0, 1) := by decide +kernel
theorem dX9_pick_12 : decode cX9_pick 12 = .ok (.getfield 12, 3) := by decide +kernel
theorem dX9_pick_15 : decode cX9_pick 15 = .ok (.invokevirtual 135, 3) := by decide +kernel
theorem dX9_pick_18 : decode cX9_pick 18 = .ok (.invokevirtual 168, 3) := by decide +kernel
theorem dX9_pick_21 : decode cX9_pick 21 = .ok (.aload_n 0, 1) := by decide +kernel
theorem dX9_pick_22 : decode cX9_pick 22 = .ok (.getfield 84, 3) := by decide +kernel
theorem dX9_pick_25 : decode cX9_pick 25 = .ok (.iload_n 1, 1) := by decide +kernel
theorem dX9_pick_26 : decode cX9_pick 26 = .ok (.invokevirtual 172, 3) := by decide +kernel
theorem dX9_pick_29 : decode cX9_pick 29 = .ok (.istore_n 2, 1) := by decide +kernel
theorem dX9_pick_30 : decode cX9_pick 30 = .ok (.iload_n 2, 1) := by decide +kernel
theorem dX9_pick_31 : decode cX9_pick 31 = .ok (.iconst (-1), 1) := by decide +kernel
theorem dX9_pick_32 : decode cX9_pick 32 = .ok (.if_icmp .ne 7, 3) := by decide +kernel
theorem dX9_pick_35 : decode cX9_pick 35 = .ok (.iconst (-1), 1) := by decide +kernel
theorem dX9_pick_36 : decode cX9_pick 36 = .ok (.goto 15, 3) := by decide +kernel
theorem dX9_pick_39 : decode cX9_pick 39 = .ok (.bipush 100, 2) := by decide +kernel
theorem dX9_pick_41 : decode cX9_pick 41 = .ok (.iload_n 2, 1) := by decide +kernel
theorem dX9_pick_42 : decode cX9_pick 42 = .ok (.invokestatic 175, 3) := by decide +kernel
theorem dX9_pick_45 : decode cX9_pick 45 = .ok (.imul, 1) := by decide +kernel
theorem dX9_pick_46 : decode cX9_pick 46 = .ok (.iload_n 2, 1) := by decide +kernel
theorem dX9_pick_47 : decode cX9_pick 47 = .ok (.invokestatic 178, 3) := by decide +kernel
theorem dX9_pick_50 : decode cX9_pick 50 = .ok (.iadd, 1) := by decide +kernel
theorem dX9_pick_51 : decode cX9_pick 51 = .ok (.ireturn, 1) := by decide +kernel
theorem dX9_at_0 : decode cX9_at 0 = .ok (.iload_n 1, 1) := by decide +kernel
theorem dX9_at_1 : decode cX9_at 1 = .ok (.ifCond .ge 6, 3) := by decide +kernel
theorem dX9_at_4 : decode cX9_at 4 = .ok (.bipush (-3), 2) := by decide +kernel
theorem dX9_at_6 : decode cX9_at 6 = .ok (.ireturn, 1) := by decide +kernel
theorem dX9_at_7 : decode cX9_at 7 = .ok (.aload_n 0, 1) := by decide +kernel
theorem dX9_at_8 : decode cX9_at 8 = .ok (.invokevirtual 144, 3) := by decide +kernel
theorem dX9_at_11 : decode cX9_at 11 = .ok (.aload_n 0, 1) := by decide +kernel
theorem dX9_at_12 : decode cX9_at 12 = .ok (.getfield 67, 3) := by decide +kernel
theorem dX9_at_15 : decode cX9_at 15 = .ok (.iload_n 1, 1) := by decide +kernel
theorem dX9_at_16 : decode cX9_at 16 = .ok (.invokevirtual 208, 3) := by decide +kernel
theorem dX9_at_19 : decode cX9_at 19 = .ok (.ireturn, 1) := by decide +kernel
theorem dX9_within_0 : decode cX9_within 0 = .ok (.iload_n 2, 1) := by decide +kernel
theorem dX9_within_1 : decode cX9_within 1 = .ok (.ifCond .lt 8, 3) := by decide +kernel
theorem dX9_within_4 : decode cX9_within 4 = .ok (.iload_n 2, 1) := by decide +kernel
theorem dX9_within_5 : decode cX9_within 5 = .ok (.iconst 2, 1) := by decide +kernel
theorem dX9_within_6 : decode cX9_within 6 = .ok (.if_icmp .le 6, 3) := by decide +kernel
theorem dX9_within_9 : decode cX9_within 9 = .ok (.bipush (-2), 2) := by decide +kernel
theorem dX9_within_11 : decode cX9_within 11 = .ok (.ireturn, 1) := by decide +kernel
theorem dX9_within_12 : decode cX9_within 12 = .ok (.iload_n 1, 1) := by decide +kernel
theorem dX9_within_13 : decode cX9_within 13 = .ok (.ifCond .ge 6, 3) := by decide +kernel
theorem dX9_within_16 : decode cX9_within 16 = .ok (.bipush (-3), 2) := by decide +kernel
theorem dX9_within_18 : decode cX9_within 18 = .ok (.ireturn, 1) := by decide +kernel
theorem dX9_within_19 : decode cX9_within 19 = .ok (.aload_n 0, 1) := by decide +kernel
theorem dX9_within_20 : decode cX9_within 20 = .ok (.invokevirtual 144, 3) := by decide +kernel
theorem dX9_within_23 : decode cX9_within 23 = .ok (.iload_n 2, 1) := by decide +kernel
theorem dX9_within_24 : decode cX9_within 24 = .ok (.ifCond .ne 12, 3) := by decide +kernel
theorem dX9_within_27 : decode cX9_within 27 = .ok (.aload_n 0, 1) := by decide +kernel
theorem dX9_within_28 : decode cX9_within 28 = .ok (.getfield 67, 3) := by decide +kernel
theorem dX9_within_31 : decode cX9_within 31 = .ok (.iload_n 1, 1) := by decide +kernel
theorem dX9_within_32 : decode cX9_within 32 = .ok (.invokevirtual 269, 3) := by decide +kernel
theorem dX9_within_35 : decode cX9_within 35 = .ok (.ireturn, 1) := by decide +kernel
theorem dX9_within_36 : decode cX9_within 36 = .ok (.iload_n 2, 1) := by decide +kernel
theorem dX9_within_37 : decode cX9_within 37 = .ok (.iconst 1, 1) := by decide +kernel
theorem dX9_within_38 : decode cX9_within 38 = .ok (.if_icmp .ne 14, 3) := by decide +kernel
theorem dX9_within_41 : decode cX9_within 41 = .ok (.aload_n 0, 1) := by decide +kernel
theorem dX9_within_42 : decode cX9_within 42 = .ok (.getfield 67, 3) := by decide +kernel
theorem dX9_within_45 : decode cX9_within 45 = .ok (.iload_n 1, 1) := by decide +kernel
theorem dX9_within_46 : decode cX9_within 46 = .ok (.invokevirtual 272, 3) := by decide +kernel
theorem dX9_within_49 : decode cX9_within 49 = .ok (.goto 11, 3) := by decide +kernel
theorem dX9_within_52 : decode cX9_within 52 = .ok (.aload_n 0, 1) := by decide +kernel
theorem dX9_within_53 : decode cX9_within 53 = .ok (.getfield 67, 3) := by decide +kernel
theorem dX9_within_56 : decode cX9_within 56 = .ok (.iload_n 1, 1) := by decide +kernel
theorem dX9_within_57 : decode cX9_within 57 = .ok (.invokevirtual 275, 3) := by decide +kernel
theorem dX9_within_60 : decode cX9_within 60 = .ok (.ireturn, 1) := by decide +kernel
theorem dX9_way_0 : decode cX9_way 0 = .ok (.iload_n 1, 1) := by decide +kernel
theorem dX9_way_1 : decode cX9_way 1 = .ok (.ifCond .lt 7, 3) := by decide +kernel
theorem dX9_way_4 : decode cX9_way 4 = .ok (.iload_n 2, 1) := by decide +kernel
theorem dX9_way_5 : decode cX9_way 5 = .ok (.ifCond .ge 6, 3) := by decide +kernel
theorem dX9_way_8 : decode cX9_way 8 = .ok (.bipush (-3), 2) := by decide +kernel
theorem dX9_way_10 : decode cX9_way 10 = .ok (.ireturn, 1) := by decide +kernel
theorem dX9_way_11 : decode cX9_way 11 = .ok (.aload_n 0, 1) := by decide +kernel
theorem dX9_way_12 : decode cX9_way 12 = .ok (.invokevirtual 144, 3) := by decide +kernel
theorem dX9_way_15 : decode cX9_way 15 = .ok (.aload_n 0, 1) := by decide +kernel
theorem dX9_way_16 : decode cX9_way 16 = .ok (.getfield 67, 3) := by decide +kernel
theorem dX9_way_19 : decode cX9_way 19 = .ok (.iload_n 1, 1) := by decide +kernel
theorem dX9_way_20 : decode cX9_way 20 = .ok (.invokevirtual 217, 3) := by decide +kernel
theorem dX9_way_23 : decode cX9_way 23 = .ok (.ifCond .eq 9, 3) := by decide +kernel
theorem dX9_way_26 : decode cX9_way 26 = .ok (.iload_n 2, 1) := by decide +kernel
theorem dX9_way_27 : decode cX9_way 27 = .ok (.bipush 60, 2) := by decide +kernel
theorem dX9_way_29 : decode cX9_way 29 = .ok (.if_icmp .le 5, 3) := by decide +kernel
theorem dX9_way_32 : decode cX9_way 32 = .ok (.iconst (-1), 1) := by decide +kernel
theorem dX9_way_33 : decode cX9_way 33 = .ok (.ireturn, 1) := by decide +kernel
theorem dX9_way_34 : decode cX9_way 34 = .ok (.aload_n 0, 1) := by decide +kernel
theorem dX9_way_35 : decode cX9_way 35 = .ok (.getfield 12, 3) := by decide +kernel
theorem dX9_way_38 : decode cX9_way 38 = .ok (.invokevirtual 135, 3) := by decide +kernel
theorem dX9_way_41 : decode cX9_way 41 = .ok (.aload_n 0, 1) := by decide +kernel
theorem dX9_way_42 : decode cX9_way 42 = .ok (.getfield 67, 3) := by decide +kernel
theorem dX9_way_45 : decode cX9_way 45 = .ok (.iload_n 1, 1) := by decide +kernel
theorem dX9_way_46 : decode cX9_way 46 = .ok (.invokevirtual 269, 3) := by decide +kernel
theorem dX9_way_49 : decode cX9_way 49 = .ok (.invokevirtual 237, 3) := by decide +kernel
theorem dX9_way_52 : decode cX9_way 52 = .ok (.istore_n 3, 1) := by decide +kernel
theorem dX9_way_53 : decode cX9_way 53 = .ok (.aload_n 0, 1) := by decide +kernel
theorem dX9_way_54 : decode cX9_way 54 = .ok (.getfield 60, 3) := by decide +kernel
theorem dX9_way_57 : decode cX9_way 57 = .ok (.aload_n 0, 1) := by decide +kernel
theorem dX9_way_58 : decode cX9_way 58 = .ok (.getfield 12, 3) := by decide +kernel
theorem dX9_way_61 : decode cX9_way 61 = .ok (.iload_n 3, 1) := by decide +kernel
theorem dX9_way_62 : decode cX9_way 62 = .ok (.iload_n 1, 1) := by decide +kernel
theorem dX9_way_63 : decode cX9_way 63 = .ok (.aload_n 0, 1) := by decide +kernel
theorem dX9_way_64 : decode cX9_way 64 = .ok (.getfield 67, 3) := by decide +kernel
theorem dX9_way_67 : decode cX9_way 67 = .ok (.iload_n 1, 1) := by decide +kernel
theorem dX9_way_68 : decode cX9_way 68 = .ok (.invokevirtual 272, 3) := by decide +kernel
theorem dX9_way_71 : decode cX9_way 71 = .ok (.isub, 1) := by decide +kernel
theorem dX9_way_72 : decode cX9_way 72 = .ok (.iload_n 2, 1) := by decide +kernel
theorem dX9_way_73 : decode cX9_way 73 = .ok (.invokevirtual 262, 3) := by decide +kernel
theorem dX9_way_76 : decode cX9_way 76 = .ok (.aload_n 0, 1) := by decide +kernel
theorem dX9_way_77 : decode cX9_way 77 = .ok (.getfield 60, 3) := by decide +kernel
theorem dX9_way_80 : decode cX9_way 80 = .ok (.invokevirtual 278, 3) := by decide +kernel
theorem dX9_way_83 : decode cX9_way 83 = .ok (.iload_n 2, 1) := by decide +kernel
theorem dX9_way_84 : decode cX9_way 84 = .ok (.if_icmp .ge 7, 3) := by decide +kernel
theorem dX9_way_87 : decode cX9_way 87 = .ok (.iconst (-1), 1) := by decide +kernel
theorem dX9_way_88 : decode cX9_way 88 = .ok (.goto 10, 3) := by decide +kernel
theorem dX9_way_91 : decode cX9_way 91 = .ok (.aload_n 0, 1) := by decide +kernel
theorem dX9_way_92 : decode cX9_way 92 = .ok (.getfield 60, 3) := by decide +kernel
theorem dX9_way_95 : decode cX9_way 95 = .ok (.invokevirtual 266, 3) := by decide +kernel
theorem dX9_way_98 : decode cX9_way 98 = .ok (.ireturn, 1) := by decide +kernel
theorem dX9_ahead_0 : decode cX9_ahead 0 = .ok (.iload_n 1, 1) := by decide +kernel
theorem dX9_ahead_1 : decode cX9_ahead 1 = .ok (.invokestatic 214, 3) := by decide +kernel
theorem dX9_ahead_4 : decode cX9_ahead 4 = .ok (.ifCond .ne 6, 3) := by decide +kernel
theorem dX9_ahead_7 : decode cX9_ahead 7 = .ok (.bipush (-2), 2) := by decide +kernel
theorem dX9_ahead_9 : decode cX9_ahead 9 = .ok (.ireturn, 1) := by decide +kernel
theorem dX9_ahead_10 : decode cX9_ahead 10 = .ok (.aload_n 0, 1) := by decide +kernel
theorem dX9_ahead_11 : decode cX9_ahead 11 = .ok (.invokevirtual 144, 3) := by decide +kernel
theorem dX9_ahead_14 : decode cX9_ahead 14 = .ok (.iload_n 2, 1) := by decide +kernel
theorem dX9_ahead_15 : decode cX9_ahead 15 = .ok (.ifCond .lt 14, 3) := by decide +kernel
theorem dX9_ahead_18 : decode cX9_ahead 18 = .ok (.iload_n 2, 1) := by decide +kernel
theorem dX9_ahead_19 : decode cX9_ahead 19 = .ok (.aload_n 0, 1) := by decide +kernel
theorem dX9_ahead_20 : decode cX9_ahead 20 = .ok (.getfield 67, 3) := by decide +kernel
theorem dX9_ahead_23 : decode cX9_ahead 23 = .ok (.invokevirtual 207, 3) := by decide +kernel
theorem dX9_ahead_26 : decode cX9_ahead 26 = .ok (.if_icmp .le 6, 3) := by decide +kernel
theorem dX9_ahead_29 : decode cX9_ahead 29 = .ok (.bipush (-5), 2) := by decide +kernel
theorem dX9_ahead_31 : decode cX9_ahead 31 = .ok (.ireturn, 1) := by decide +kernel
theorem dX9_ahead_32 : decode cX9_ahead 32 = .ok (.iconst 0, 1) := by decide +kernel
theorem dX9_ahead_33 : decode cX9_ahead 33 = .ok (.istore_n 3, 1) := by decide +kernel
theorem dX9_ahead_34 : decode cX9_ahead 34 = .ok (.iconst 0, 1) := by decide +kernel
theorem dX9_ahead_35 : decode cX9_ahead 35 = .ok (.istore 4, 2) := by decide +kernel
theorem dX9_ahead_37 : decode cX9_ahead 37 = .ok (.iload 4, 2) := by decide +kernel
theorem dX9_ahead_39 : decode cX9_ahead 39 = .ok (.iload_n 2, 1) := by decide +kernel
theorem dX9_ahead_40 : decode cX9_ahead 40 = .ok (.if_icmp .ge 25, 3) := by decide +kernel
theorem dX9_ahead_43 : decode cX9_ahead 43 = .ok (.aload_n 0, 1) := by decide +kernel
theorem dX9_ahead_44 : decode cX9_ahead 44 = .ok (.getfield 67, 3) := by decide +kernel
theorem dX9_ahead_47 : decode cX9_ahead 47 = .ok (.iload 4, 2) := by decide +kernel
theorem dX9_ahead_49 : decode cX9_ahead 49 = .ok (.invokevirtual 208, 3) := by decide +kernel
theorem dX9_ahead_52 : decode cX9_ahead 52 = .ok (.iload_n 1, 1) := by decide +kernel
theorem dX9_ahead_53 : decode cX9_ahead 53 = .ok (.if_icmp .ne 6, 3) := by decide +kernel
theorem dX9_ahead_56 : decode cX9_ahead 56 = .ok (.iinc 3 1, 3) := by decide +kernel
theorem dX9_ahead_59 : decode cX9_ahead 59 = .ok (.iinc 4 1, 3) := by decide +kernel
theorem dX9_ahead_62 : decode cX9_ahead 62 = .ok (.goto (-25), 3) := by decide +kernel
theorem dX9_ahead_65 : decode cX9_ahead 65 = .ok (.iload_n 3, 1) := by decide +kernel
theorem dX9_ahead_66 : decode cX9_ahead 66 = .ok (.ireturn, 1) := by decide +kernel
theorem dX9_where_0 : decode cX9_where 0 = .ok (.iload_n 1, 1) := by decide +kernel
theorem dX9_where_1 : decode cX9_where 1 = .ok (.invokestatic 214, 3) := by decide +kernel
theorem dX9_where_4 : decode cX9_where 4 = .ok (.ifCond .ne 6, 3) := by decide +kernel
theorem dX9_where_7 : decode cX9_where 7 = .ok (.bipush (-2), 2) := by decide +kernel
theorem dX9_where_9 : decode cX9_where 9 = .ok (.ireturn, 1) := by decide +kernel
theorem dX9_where_10 : decode cX9_where 10 = .ok (.iload_n 2, 1) := by decide +kernel
theorem dX9_where_11 : decode cX9_where 11 = .ok (.ifCond .ge 6, 3) := by decide +kernel
theorem dX9_where_14 : decode cX9_where 14 = .ok (.bipush (-3), 2) := by decide +kernel
theorem dX9_where_16 : decode cX9_where 16 = .ok (.ireturn, 1) := by decide +kernel
theorem dX9_where_17 : decode cX9_where 17 = .ok (.aload_n 0, 1) := by decide +kernel
theorem dX9_where_18 : decode cX9_where 18 = .ok (.invokevirtual 144, 3) := by decide +kernel
theorem dX9_where_21 : decode cX9_where 21 = .ok (.iconst 0, 1) := by decide +kernel
theorem dX9_where_22 : decode cX9_where 22 = .ok (.istore_n 3, 1) := by decide +kernel
theorem dX9_where_23 : decode cX9_where 23 = .ok (.iconst 0, 1) := by decide +kernel
theorem dX9_where_24 : decode cX9_where 24 = .ok (.istore 4, 2) := by decide +kernel
theorem dX9_where_26 : decode cX9_where 26 = .ok (.iload 4, 2) := by decide +kernel
theorem dX9_where_28 : decode cX9_where 28 = .ok (.aload_n 0, 1) := by decide +kernel
theorem dX9_where_29 : decode cX9_where 29 = .ok (.getfield 67, 3) := by decide +kernel
theorem dX9_where_32 : decode cX9_where 32 = .ok (.invokevirtual 207, 3) := by decide +kernel
theorem dX9_where_35 : decode cX9_where 35 = .ok (.if_icmp .ge 33, 3) := by decide +kernel
theorem dX9_where_38 : decode cX9_where 38 = .ok (.aload_n 0, 1) := by decide +kernel
theorem dX9_where_39 : decode cX9_where 39 = .ok (.getfield 67, 3) := by decide +kernel
theorem dX9_where_42 : decode cX9_where 42 = .ok (.iload 4, 2) := by decide +kernel
theorem dX9_where_44 : decode cX9_where 44 = .ok (.invokevirtual 208, 3) := by decide +kernel
theorem dX9_where_47 : decode cX9_where 47 = .ok (.iload_n 1, 1) := by decide +kernel
theorem dX9_where_48 : decode cX9_where 48 = .ok (.if_icmp .ne 14, 3) := by decide +kernel
theorem dX9_where_51 : decode cX9_where 51 = .ok (.iload_n 3, 1) := by decide +kernel
theorem dX9_where_52 : decode cX9_where 52 = .ok (.iload_n 2, 1) := by decide +kernel
theorem dX9_where_53 : decode cX9_where 53 = .ok (.if_icmp .ne 6, 3) := by decide +kernel
theorem dX9_where_56 : decode cX9_where 56 = .ok (.iload 4, 2) := by decide +kernel
theorem dX9_where_58 : decode cX9_where 58 = .ok (.ireturn, 1) := by decide +kernel
theorem dX9_where_59 : decode cX9_where 59 = .ok (.iinc 3 1, 3) := by decide +kernel
theorem dX9_where_62 : decode cX9_where 62 = .ok (.iinc 4 1, 3) := by decide +kernel
theorem dX9_where_65 : decode cX9_where 65 = .ok (.goto (-39), 3) := by decide +kernel
theorem dX9_where_68 : decode cX9_where 68 = .ok (.iconst (-1), 1) := by decide +kernel
theorem dX9_where_69 : decode cX9_where 69 = .ok (.ireturn, 1) := by decide +kernel
theorem dX9_common_0 : decode cX9_common 0 = .ok (.aload_n 0, 1) := by decide +kernel
theorem dX9_common_1 : decode cX9_common 1 = .ok (.invokevirtual 144, 3) := by decide +kernel
theorem dX9_common_4 : decode cX9_common 4 = .ok (.aload_n 0, 1) := by decide +kernel
theorem dX9_common_5 : decode cX9_common 5 = .ok (.getfield 67, 3) := by decide +kernel
theorem dX9_common_8 : decode cX9_common 8 = .ok (.iload_n 1, 1) := by decide +kernel
theorem dX9_common_9 : decode cX9_common 9 = .ok (.invokevirtual 217, 3) := by decide +kernel
theorem dX9_common_12 : decode cX9_common 12 = .ok (.ifCond .eq 14, 3) := by decide +kernel
theorem dX9_common_15 : decode cX9_common 15 = .ok (.aload_n 0, 1) := by decide +kernel
theorem dX9_common_16 : decode cX9_common 16 = .ok (.getfield 67, 3) := by decide +kernel
theorem dX9_common_19 : decode cX9_common 19 = .ok (.iload_n 2, 1) := by decide +kernel
theorem dX9_common_20 : decode cX9_common 20 = .ok (.invokevirtual 217, 3) := by decide +kernel
theorem dX9_common_23 : decode cX9_common 23 = .ok (.ifCond .ne 6, 3) := by decide +kernel
theorem dX9_common_26 : decode cX9_common 26 = .ok (.bipush (-5), 2) := by decide +kernel
theorem dX9_common_28 : decode cX9_common 28 = .ok (.ireturn, 1) := by decide +kernel
theorem dX9_common_29 : decode cX9_common 29 = .ok (.aload_n 0, 1) := by decide +kernel
theorem dX9_common_30 : decode cX9_common 30 = .ok (.getfield 67, 3) := by decide +kernel
theorem dX9_common_33 : decode cX9_common 33 = .ok (.iload_n 1, 1) := by decide +kernel
theorem dX9_common_34 : decode cX9_common 34 = .ok (.iload_n 2, 1) := by decide +kernel
theorem dX9_common_35 : decode cX9_common 35 = .ok (.invokevirtual 281, 3) := by decide +kernel
theorem dX9_common_38 : decode cX9_common 38 = .ok (.ireturn, 1) := by decide +kernel
theorem dX9_compare_0 : decode cX9_compare 0 = .ok (.aload_n 0, 1) := by decide +kernel
theorem dX9_compare_1 : decode cX9_compare 1 = .ok (.invokevirtual 144, 3) := by decide +kernel
theorem dX9_compare_4 : decode cX9_compare 4 = .ok (.aload_n 0, 1) := by decide +kernel
theorem dX9_compare_5 : decode cX9_compare 5 = .ok (.getfield 67, 3) := by decide +kernel
theorem dX9_compare_8 : decode cX9_compare 8 = .ok (.iload_n 1, 1) := by decide +kernel
theorem dX9_compare_9 : decode cX9_compare 9 = .ok (.invokevirtual 217, 3) := by decide +kernel
theorem dX9_compare_12 : decode cX9_compare 12 = .ok (.ifCond .eq 14, 3) := by decide +kernel
theorem dX9_compare_15 : decode cX9_compare 15 = .ok (.aload_n 0, 1) := by decide +kernel
theorem dX9_compare_16 : decode cX9_compare 16 = .ok (.getfield 67, 3) := by decide +kernel
theorem dX9_compare_19 : decode cX9_compare 19 = .ok (.iload_n 2, 1) := by decide +kernel
theorem dX9_compare_20 : decode cX9_compare 20 = .ok (.invokevirtual 217, 3) := by decide +kernel
theorem dX9_compare_23 : decode cX9_compare 23 = .ok (.ifCond .ne 6, 3) := by decide +kernel
theorem dX9_compare_26 : decode cX9_compare 26 = .ok (.bipush (-5), 2) := by decide +kernel
theorem dX9_compare_28 : decode cX9_compare 28 = .ok (.ireturn, 1) := by decide +kernel
theorem dX9_compare_29 : decode cX9_compare 29 = .ok (.iload_n 1, 1) := by decide +kernel
theorem dX9_compare_30 : decode cX9_compare 30 = .ok (.iload_n 2, 1) := by decide +kernel
theorem dX9_compare_31 : decode cX9_compare 31 = .ok (.if_icmp .ne 5, 3) := by decide +kernel
theorem dX9_compare_34 : decode cX9_compare 34 = .ok (.iconst 0, 1) := by decide +kernel
theorem dX9_compare_35 : decode cX9_compare 35 = .ok (.ireturn, 1) := by decide +kernel
theorem dX9_compare_36 : decode cX9_compare 36 = .ok (.aload_n 0, 1) := by decide +kernel
theorem dX9_compare_37 : decode cX9_compare 37 = .ok (.getfield 67, 3) := by decide +kernel
theorem dX9_compare_40 : decode cX9_compare 40 = .ok (.iload_n 1, 1) := by decide +kernel
theorem dX9_compare_41 : decode cX9_compare 41 = .ok (.iload_n 2, 1) := by decide +kernel
theorem dX9_compare_42 : decode cX9_compare 42 = .ok (.invokevirtual 281, 3) := by decide +kernel
theorem dX9_compare_45 : decode cX9_compare 45 = .ok (.istore_n 3, 1) := by decide +kernel
theorem dX9_compare_46 : decode cX9_compare 46 = .ok (.aload_n 0, 1) := by decide +kernel
theorem dX9_compare_47 : decode cX9_compare 47 = .ok (.getfield 67, 3) := by decide +kernel
theorem dX9_compare_50 : decode cX9_compare 50 = .ok (.iload_n 1, 1) := by decide +kernel
theorem dX9_compare_51 : decode cX9_compare 51 = .ok (.iload_n 3, 1) := by decide +kernel
theorem dX9_compare_52 : decode cX9_compare 52 = .ok (.iadd, 1) := by decide +kernel
theorem dX9_compare_53 : decode cX9_compare 53 = .ok (.invokevirtual 208, 3) := by decide +kernel
theorem dX9_compare_56 : decode cX9_compare 56 = .ok (.aload_n 0, 1) := by decide +kernel
theorem dX9_compare_57 : decode cX9_compare 57 = .ok (.getfield 67, 3) := by decide +kernel
theorem dX9_compare_60 : decode cX9_compare 60 = .ok (.iload_n 2, 1) := by decide +kernel
theorem dX9_compare_61 : decode cX9_compare 61 = .ok (.iload_n 3, 1) := by decide +kernel
theorem dX9_compare_62 : decode cX9_compare 62 = .ok (.iadd, 1) := by decide +kernel
theorem dX9_compare_63 : decode cX9_compare 63 = .ok (.invokevirtual 208, 3) := by decide +kernel
theorem dX9_compare_66 : decode cX9_compare 66 = .ok (.if_icmp .ge 7, 3) := by decide +kernel
theorem dX9_compare_69 : decode cX9_compare 69 = .ok (.iconst 1, 1) := by decide +kernel
theorem dX9_compare_70 : decode cX9_compare 70 = .ok (.goto 4, 3) := by decide +kernel
theorem dX9_compare_73 : decode cX9_compare 73 = .ok (.iconst 2, 1) := by decide +kernel
theorem dX9_compare_74 : decode cX9_compare 74 = .ok (.ireturn, 1) := by decide +kernel
theorem dX9_print_0 : decode cX9_print 0 = .ok (.iload_n 2, 1) := by decide +kernel
theorem dX9_print_1 : decode cX9_print 1 = .ok (.ifCond .ge 6, 3) := by decide +kernel
theorem dX9_print_4 : decode cX9_print 4 = .ok (.bipush (-3), 2) := by decide +kernel
theorem dX9_print_6 : decode cX9_print 6 = .ok (.ireturn, 1) := by decide +kernel
theorem dX9_print_7 : decode cX9_print 7 = .ok (.aload_n 0, 1) := by decide +kernel
theorem dX9_print_8 : decode cX9_print 8 = .ok (.iload_n 1, 1) := by decide +kernel
theorem dX9_print_9 : decode cX9_print 9 = .ok (.iload_n 2, 1) := by decide +kernel
theorem dX9_print_10 : decode cX9_print 10 = .ok (.invokevirtual 227, 3) := by decide +kernel
theorem dX9_print_13 : decode cX9_print 13 = .ok (.ifCond .ne 6, 3) := by decide +kernel
theorem dX9_print_16 : decode cX9_print 16 = .ok (.bipush (-5), 2) := by decide +kernel
theorem dX9_print_18 : decode cX9_print 18 = .ok (.ireturn, 1) := by decide +kernel
theorem dX9_print_19 : decode cX9_print 19 = .ok (.iconst 0, 1) := by decide +kernel
theorem dX9_print_20 : decode cX9_print 20 = .ok (.istore_n 3, 1) := by decide +kernel
theorem dX9_print_21 : decode cX9_print 21 = .ok (.iload_n 1, 1) := by decide +kernel
theorem dX9_print_22 : decode cX9_print 22 = .ok (.istore 4, 2) := by decide +kernel
theorem dX9_print_24 : decode cX9_print 24 = .ok (.iload 4, 2) := by decide +kernel
theorem dX9_print_26 : decode cX9_print 26 = .ok (.iload_n 1, 1) := by decide +kernel
theorem dX9_print_27 : decode cX9_print 27 = .ok (.iload_n 2, 1) := by decide +kernel
theorem dX9_print_28 : decode cX9_print 28 = .ok (.iadd, 1) := by decide +kernel
theorem dX9_print_29 : decode cX9_print 29 = .ok (.if_icmp .ge 30, 3) := by decide +kernel
theorem dX9_print_32 : decode cX9_print 32 = .ok (.bipush 31, 2) := by decide +kernel
theorem dX9_print_34 : decode cX9_print 34 = .ok (.iload_n 3, 1) := by decide +kernel
theorem dX9_print_35 : decode cX9_print 35 = .ok (.imul, 1) := by decide +kernel
theorem dX9_print_36 : decode cX9_print 36 = .ok (.aload_n 0, 1) := by decide +kernel
theorem dX9_print_37 : decode cX9_print 37 = .ok (.getfield 67, 3) := by decide +kernel
theorem dX9_print_40 : decode cX9_print 40 = .ok (.iload 4, 2) := by decide +kernel
theorem dX9_print_42 : decode cX9_print 42 = .ok (.invokevirtual 208, 3) := by decide +kernel
theorem dX9_print_45 : decode cX9_print 45 = .ok (.iadd, 1) := by decide +kernel
theorem dX9_print_46 : decode cX9_print 46 = .ok (.iconst 1, 1) := by decide +kernel
theorem dX9_print_47 : decode cX9_print 47 = .ok (.iadd, 1) := by decide +kernel
theorem dX9_print_48 : decode cX9_print 48 = .ok (.ldc_w 284, 3) := by decide +kernel
theorem dX9_print_51 : decode cX9_print 51 = .ok (.irem, 1) := by decide +kernel
theorem dX9_print_52 : decode cX9_print 52 = .ok (.istore_n 3, 1) := by decide +kernel
theorem dX9_print_53 : decode cX9_print 53 = .ok (.iinc 4 1, 3) := by decide +kernel
theorem dX9_print_56 : decode cX9_print 56 = .ok (.goto (-32), 3) := by decide +kernel
theorem dX9_print_59 : decode cX9_print 59 = .ok (.iload_n 3, 1) := by decide +kernel
theorem dX9_print_60 : decode cX9_print 60 = .ok (.ireturn, 1) := by decide +kernel
theorem dX9_repeat_0 : decode cX9_repeat 0 = .ok (.aload_n 0, 1) := by decide +kernel
theorem dX9_repeat_1 : decode cX9_repeat 1 = .ok (.invokevirtual 144, 3) := by decide +kernel
theorem dX9_repeat_4 : decode cX9_repeat 4 = .ok (.aload_n 0, 1) := by decide +kernel
theorem dX9_repeat_5 : decode cX9_repeat 5 = .ok (.getfield 67, 3) := by decide +kernel
theorem dX9_repeat_8 : decode cX9_repeat 8 = .ok (.invokevirtual 285, 3) := by decide +kernel
theorem dX9_repeat_11 : decode cX9_repeat 11 = .ok (.aload_n 0, 1) := by decide +kernel
theorem dX9_repeat_12 : decode cX9_repeat 12 = .ok (.getfield 67, 3) := by decide +kernel
theorem dX9_repeat_15 : decode cX9_repeat 15 = .ok (.invokevirtual 288, 3) := by decide +kernel
theorem dX9_repeat_18 : decode cX9_repeat 18 = .ok (.ireturn, 1) := by decide +kernel
theorem dX9_repeatAt_0 : decode cX9_repeatAt 0 = .ok (.aload_n 0, 1) := by decide +kernel
theorem dX9_repeatAt_1 : decode cX9_repeatAt 1 = .ok (.invokevirtual 144, 3) := by decide +kernel
theorem dX9_repeatAt_4 : decode cX9_repeatAt 4 = .ok (.aload_n 0, 1) := by decide +kernel
theorem dX9_repeatAt_5 : decode cX9_repeatAt 5 = .ok (.getfield 67, 3) := by decide +kernel
theorem dX9_repeatAt_8 : decode cX9_repeatAt 8 = .ok (.invokevirtual 285, 3) := by decide +kernel
theorem dX9_repeatAt_11 : decode cX9_repeatAt 11 = .ok (.aload_n 0, 1) := by decide +kernel
theorem dX9_repeatAt_12 : decode cX9_repeatAt 12 = .ok (.getfield 67, 3) := by decide +kernel
theorem dX9_repeatAt_15 : decode cX9_repeatAt 15 = .ok (.invokevirtual 291, 3) := by decide +kernel
theorem dX9_repeatAt_18 : decode cX9_repeatAt 18 = .ok (.ireturn, 1) := by decide +kernel
theorem dX9_hit_0 : decode cX9_hit 0 = .ok (.iload_n 1, 1) := by decide +kernel
theorem dX9_hit_1 : decode cX9_hit 1 = .ok (.ifCond .ge 6, 3) := by decide +kernel
theorem dX9_hit_4 : decode cX9_hit 4 = .ok (.bipush (-3), 2) := by decide +kernel
theorem dX9_hit_6 : decode cX9_hit 6 = .ok (.ireturn, 1) := by decide +kernel
theorem dX9_hit_7 : decode cX9_hit 7 = .ok (.aload_n 0, 1) := by decide +kernel
theorem dX9_hit_8 : decode cX9_hit 8 = .ok (.getfield 40, 3) := by decide +kernel
theorem dX9_hit_11 : decode cX9_hit 11 = .ok (.invokevirtual 105, 3) := by decide +kernel
theorem dX9_hit_14 : decode cX9_hit 14 = .ok (.ifCond .ne 6, 3) := by decide +kernel
theorem dX9_hit_17 : decode cX9_hit 17 = .ok (.bipush (-5), 2) := by decide +kernel
theorem dX9_hit_19 : decode cX9_hit 19 = .ok (.ireturn, 1) := by decide +kernel
theorem dX9_hit_20 : decode cX9_hit 20 = .ok (.aload_n 0, 1) := by decide +kernel
theorem dX9_hit_21 : decode cX9_hit 21 = .ok (.invokevirtual 144, 3) := by decide +kernel
theorem dX9_hit_24 : decode cX9_hit 24 = .ok (.aload_n 0, 1) := by decide +kernel
theorem dX9_hit_25 : decode cX9_hit 25 = .ok (.getfield 67, 3) := by decide +kernel
theorem dX9_hit_28 : decode cX9_hit 28 = .ok (.aload_n 0, 1) := by decide +kernel
theorem dX9_hit_29 : decode cX9_hit 29 = .ok (.getfield 40, 3) := by decide +kernel
theorem dX9_hit_32 : decode cX9_hit 32 = .ok (.iload_n 1, 1) := by decide +kernel
theorem dX9_hit_33 : decode cX9_hit 33 = .ok (.invokevirtual 294, 3) := by decide +kernel
theorem dX9_hit_36 : decode cX9_hit 36 = .ok (.ireturn, 1) := by decide +kernel
theorem dX9_hits_0 : decode cX9_hits 0 = .ok (.iload_n 1, 1) := by decide +kernel
theorem dX9_hits_1 : decode cX9_hits 1 = .ok (.ifCond .lt 8, 3) := by decide +kernel
theorem dX9_hits_4 : decode cX9_hits 4 = .ok (.iload_n 1, 1) := by decide +kernel
theorem dX9_hits_5 : decode cX9_hits 5 = .ok (.iconst 2, 1) := by decide +kernel
theorem dX9_hits_6 : decode cX9_hits 6 = .ok (.if_icmp .le 6, 3) := by decide +kernel
theorem dX9_hits_9 : decode cX9_hits 9 = .ok (.bipush (-2), 2) := by decide +kernel
theorem dX9_hits_11 : decode cX9_hits 11 = .ok (.ireturn, 1) := by decide +kernel
theorem dX9_hits_12 : decode cX9_hits 12 = .ok (.iload_n 1, 1) := by decide +kernel
theorem dX9_hits_13 : decode cX9_hits 13 = .ok (.iconst 2, 1) := by decide +kernel
theorem dX9_hits_14 : decode cX9_hits 14 = .ok (.if_icmp .ne 11, 3) := by decide +kernel
theorem dX9_hits_17 : decode cX9_hits 17 = .ok (.aload_n 0, 1) := by decide +kernel
theorem dX9_hits_18 : decode cX9_hits 18 = .ok (.getfield 40, 3) := by decide +kernel
theorem dX9_hits_21 : decode cX9_hits 21 = .ok (.invokevirtual 105, 3) := by decide +kernel
theorem dX9_hits_24 : decode cX9_hits 24 = .ok (.ireturn, 1) := by decide +kernel
theorem dX9_hits_25 : decode cX9_hits 25 = .ok (.aload_n 0, 1) := by decide +kernel
theorem dX9_hits_26 : decode cX9_hits 26 = .ok (.getfield 40, 3) := by decide +kernel
theorem dX9_hits_29 : decode cX9_hits 29 = .ok (.invokevirtual 105, 3) := by decide +kernel
theorem dX9_hits_32 : decode cX9_hits 32 = .ok (.ifCond .ne 6, 3) := by decide +kernel
theorem dX9_hits_35 : decode cX9_hits 35 = .ok (.bipush (-5), 2) := by decide +kernel
theorem dX9_hits_37 : decode cX9_hits 37 = .ok (.ireturn, 1) := by decide +kernel
theorem dX9_hits_38 : decode cX9_hits 38 = .ok (.aload_n 0, 1) := by decide +kernel
theorem dX9_hits_39 : decode cX9_hits 39 = .ok (.invokevirtual 144, 3) := by decide +kernel
theorem dX9_hits_42 : decode cX9_hits 42 = .ok (.iload_n 1, 1) := by decide +kernel
theorem dX9_hits_43 : decode cX9_hits 43 = .ok (.ifCond .ne 17, 3) := by decide +kernel
theorem dX9_hits_46 : decode cX9_hits 46 = .ok (.aload_n 0, 1) := by decide +kernel
theorem dX9_hits_47 : decode cX9_hits 47 = .ok (.getfield 67, 3) := by decide +kernel
theorem dX9_hits_50 : decode cX9_hits 50 = .ok (.aload_n 0, 1) := by decide +kernel
theorem dX9_hits_51 : decode cX9_hits 51 = .ok (.getfield 40, 3) := by decide +kernel
theorem dX9_hits_54 : decode cX9_hits 54 = .ok (.invokevirtual 147, 3) := by decide +kernel
theorem dX9_hits_57 : decode cX9_hits 57 = .ok (.goto 14, 3) := by decide +kernel
theorem dX9_hits_60 : decode cX9_hits 60 = .ok (.aload_n 0, 1) := by decide +kernel
theorem dX9_hits_61 : decode cX9_hits 61 = .ok (.getfield 67, 3) := by decide +kernel
theorem dX9_hits_64 : decode cX9_hits 64 = .ok (.aload_n 0, 1) := by decide +kernel
theorem dX9_hits_65 : decode cX9_hits 65 = .ok (.getfield 40, 3) := by decide +kernel
theorem dX9_hits_68 : decode cX9_hits 68 = .ok (.invokevirtual 298, 3) := by decide +kernel
theorem dX9_hits_71 : decode cX9_hits 71 = .ok (.ireturn, 1) := by decide +kernel
theorem dX9_gain_0 : decode cX9_gain 0 = .ok (.aload_n 0, 1) := by decide +kernel
theorem dX9_gain_1 : decode cX9_gain 1 = .ok (.getfield 12, 3) := by decide +kernel
theorem dX9_gain_4 : decode cX9_gain 4 = .ok (.iload_n 1, 1) := by decide +kernel
theorem dX9_gain_5 : decode cX9_gain 5 = .ok (.invokevirtual 188, 3) := by decide +kernel
theorem dX9_gain_8 : decode cX9_gain 8 = .ok (.ifCond .eq 14, 3) := by decide +kernel
theorem dX9_gain_11 : decode cX9_gain 11 = .ok (.aload_n 0, 1) := by decide +kernel
theorem dX9_gain_12 : decode cX9_gain 12 = .ok (.getfield 12, 3) := by decide +kernel
theorem dX9_gain_15 : decode cX9_gain 15 = .ok (.iload_n 2, 1) := by decide +kernel
theorem dX9_gain_16 : decode cX9_gain 16 = .ok (.invokevirtual 188, 3) := by decide +kernel
theorem dX9_gain_19 : decode cX9_gain 19 = .ok (.ifCond .ne 6, 3) := by decide +kernel
theorem dX9_gain_22 : decode cX9_gain 22 = .ok (.bipush (-2), 2) := by decide +kernel
theorem dX9_gain_24 : decode cX9_gain 24 = .ok (.ireturn, 1) := by decide +kernel
theorem dX9_gain_25 : decode cX9_gain 25 = .ok (.aload_n 0, 1) := by decide +kernel
theorem dX9_gain_26 : decode cX9_gain 26 = .ok (.getfield 84, 3) := by decide +kernel
theorem dX9_gain_29 : decode cX9_gain 29 = .ok (.aload_n 0, 1) := by decide +kernel
theorem dX9_gain_30 : decode cX9_gain 30 = .ok (.getfield 12, 3) := by decide +kernel
theorem dX9_gain_33 : decode cX9_gain 33 = .ok (.invokevirtual 135, 3) := by decide +kernel
theorem dX9_gain_36 : decode cX9_gain 36 = .ok (.invokevirtual 168, 3) := by decide +kernel
theorem dX9_gain_39 : decode cX9_gain 39 = .ok (.aload_n 0, 1) := by decide +kernel
theorem dX9_gain_40 : decode cX9_gain 40 = .ok (.getfield 84, 3) := by decide +kernel
theorem dX9_gain_43 : decode cX9_gain 43 = .ok (.iload_n 1, 1) := by decide +kernel
theorem dX9_gain_44 : decode cX9_gain 44 = .ok (.iload_n 2, 1) := by decide +kernel
theorem dX9_gain_45 : decode cX9_gain 45 = .ok (.invokevirtual 191, 3) := by decide +kernel
theorem dX9_gain_48 : decode cX9_gain 48 = .ok (.istore_n 3, 1) := by decide +kernel
theorem dX9_gain_49 : decode cX9_gain 49 = .ok (.iload_n 3, 1) := by decide +kernel
theorem dX9_gain_50 : decode cX9_gain 50 = .ok (.ifCond .ne 6, 3) := by decide +kernel
theorem dX9_gain_53 : decode cX9_gain 53 = .ok (.bipush (-5), 2) := by decide +kernel
theorem dX9_gain_55 : decode cX9_gain 55 = .ok (.ireturn, 1) := by decide +kernel
theorem dX9_gain_56 : decode cX9_gain 56 = .ok (.aload_n 0, 1) := by decide +kernel
theorem dX9_gain_57 : decode cX9_gain 57 = .ok (.getfield 12, 3) := by decide +kernel
theorem dX9_gain_60 : decode cX9_gain 60 = .ok (.iload_n 1, 1) := by decide +kernel
theorem dX9_gain_61 : decode cX9_gain 61 = .ok (.iload_n 2, 1) := by decide +kernel
theorem dX9_gain_62 : decode cX9_gain 62 = .ok (.invokevirtual 301, 3) := by decide +kernel
theorem dX9_gain_65 : decode cX9_gain 65 = .ok (.iconst (-1), 1) := by decide +kernel
theorem dX9_gain_66 : decode cX9_gain 66 = .ok (.if_icmp .ne 9, 3) := by decide +kernel
theorem dX9_gain_69 : decode cX9_gain 69 = .ok (.iload_n 3, 1) := by decide +kernel
theorem dX9_gain_70 : decode cX9_gain 70 = .ok (.iconst 2, 1) := by decide +kernel
theorem dX9_gain_71 : decode cX9_gain 71 = .ok (.isub, 1) := by decide +kernel
theorem dX9_gain_72 : decode cX9_gain 72 = .ok (.goto 4, 3) := by decide +kernel
theorem dX9_gain_75 : decode cX9_gain 75 = .ok (.iload_n 3, 1) := by decide +kernel
theorem dX9_gain_76 : decode cX9_gain 76 = .ok (.ireturn, 1) := by decide +kernel
theorem dX9_best_0 : decode cX9_best 0 = .ok (.iload_n 1, 1) := by decide +kernel
theorem dX9_best_1 : decode cX9_best 1 = .ok (.ifCond .lt 8, 3) := by decide +kernel
theorem dX9_best_4 : decode cX9_best 4 = .ok (.iload_n 1, 1) := by decide +kernel
theorem dX9_best_5 : decode cX9_best 5 = .ok (.iconst 2, 1) := by decide +kernel
theorem dX9_best_6 : decode cX9_best 6 = .ok (.if_icmp .le 6, 3) := by decide +kernel
theorem dX9_best_9 : decode cX9_best 9 = .ok (.bipush (-3), 2) := by decide +kernel
theorem dX9_best_11 : decode cX9_best 11 = .ok (.ireturn, 1) := by decide +kernel
theorem dX9_best_12 : decode cX9_best 12 = .ok (.aload_n 0, 1) := by decide +kernel
theorem dX9_best_13 : decode cX9_best 13 = .ok (.getfield 91, 3) := by decide +kernel
theorem dX9_best_16 : decode cX9_best 16 = .ok (.aload_n 0, 1) := by decide +kernel
theorem dX9_best_17 : decode cX9_best 17 = .ok (.getfield 12, 3) := by decide +kernel
theorem dX9_best_20 : decode cX9_best 20 = .ok (.iload_n 1, 1) := by decide +kernel
theorem dX9_best_21 : decode cX9_best 21 = .ok (.invokevirtual 304, 3) := by decide +kernel
theorem dX9_best_24 : decode cX9_best 24 = .ok (.ireturn, 1) := by decide +kernel
theorem dX9_bits_0 : decode cX9_bits 0 = .ok (.iload_n 1, 1) := by decide +kernel
theorem dX9_bits_1 : decode cX9_bits 1 = .ok (.ifCond .lt 8, 3) := by decide +kernel
theorem dX9_bits_4 : decode cX9_bits 4 = .ok (.iload_n 1, 1) := by decide +kernel
theorem dX9_bits_5 : decode cX9_bits 5 = .ok (.iconst 2, 1) := by decide +kernel
theorem dX9_bits_6 : decode cX9_bits 6 = .ok (.if_icmp .le 7, 3) := by decide +kernel
theorem dX9_bits_9 : decode cX9_bits 9 = .ok (.ldc_w 308, 3) := by decide +kernel
theorem dX9_bits_12 : decode cX9_bits 12 = .ok (.ireturn, 1) := by decide +kernel
theorem dX9_bits_13 : decode cX9_bits 13 = .ok (.aload_n 0, 1) := by decide +kernel
theorem dX9_bits_14 : decode cX9_bits 14 = .ok (.invokevirtual 144, 3) := by decide +kernel
theorem dX9_bits_17 : decode cX9_bits 17 = .ok (.iload_n 1, 1) := by decide +kernel
theorem dX9_bits_18 : decode cX9_bits 18 = .ok (.ifCond .ne 18, 3) := by decide +kernel
theorem dX9_bits_21 : decode cX9_bits 21 = .ok (.aload_n 0, 1) := by decide +kernel
theorem dX9_bits_22 : decode cX9_bits 22 = .ok (.aload_n 0, 1) := by decide +kernel
theorem dX9_bits_23 : decode cX9_bits 23 = .ok (.getfield 12, 3) := by decide +kernel
theorem dX9_bits_26 : decode cX9_bits 26 = .ok (.invokevirtual 203, 3) := by decide +kernel
theorem dX9_bits_29 : decode cX9_bits 29 = .ok (.invokevirtual 309, 3) := by decide +kernel
theorem dX9_bits_32 : decode cX9_bits 32 = .ok (.invokestatic 313, 3) := by decide +kernel
theorem dX9_bits_35 : decode cX9_bits 35 = .ok (.ireturn, 1) := by decide +kernel
theorem dX9_bits_36 : decode cX9_bits 36 = .ok (.iload_n 1, 1) := by decide +kernel
theorem dX9_bits_37 : decode cX9_bits 37 = .ok (.iconst 1, 1) := by decide +kernel
theorem dX9_bits_38 : decode cX9_bits 38 = .ok (.if_icmp .ne 17, 3) := by decide +kernel
theorem dX9_bits_41 : decode cX9_bits 41 = .ok (.aload_n 0, 1) := by decide +kernel
theorem dX9_bits_42 : decode cX9_bits 42 = .ok (.aload_n 0, 1) := by decide +kernel
theorem dX9_bits_43 : decode cX9_bits 43 = .ok (.getfield 67, 3) := by decide +kernel
theorem dX9_bits_46 : decode cX9_bits 46 = .ok (.invokevirtual 317, 3) := by decide +kernel
theorem dX9_bits_49 : decode cX9_bits 49 = .ok (.invokevirtual 309, 3) := by decide +kernel
theorem dX9_bits_52 : decode cX9_bits 52 = .ok (.goto 7, 3) := by decide +kernel
theorem dX9_bits_55 : decode cX9_bits 55 = .ok (.aload_n 0, 1) := by decide +kernel
theorem dX9_bits_56 : decode cX9_bits 56 = .ok (.invokevirtual 320, 3) := by decide +kernel
theorem dX9_bits_59 : decode cX9_bits 59 = .ok (.invokestatic 313, 3) := by decide +kernel
theorem dX9_bits_62 : decode cX9_bits 62 = .ok (.ireturn, 1) := by decide +kernel
theorem dX9_form_0 : decode cX9_form 0 = .ok (.iload_n 1, 1) := by decide +kernel
theorem dX9_form_1 : decode cX9_form 1 = .ok (.ifCond .ge 6, 3) := by decide +kernel
theorem dX9_form_4 : decode cX9_form 4 = .ok (.bipush (-3), 2) := by decide +kernel
theorem dX9_form_6 : decode cX9_form 6 = .ok (.ireturn, 1) := by decide +kernel
theorem dX9_form_7 : decode cX9_form 7 = .ok (.aload_n 0, 1) := by decide +kernel
theorem dX9_form_8 : decode cX9_form 8 = .ok (.invokevirtual 324, 3) := by decide +kernel
theorem dX9_form_11 : decode cX9_form 11 = .ok (.aload_n 0, 1) := by decide +kernel
theorem dX9_form_12 : decode cX9_form 12 = .ok (.getfield 102, 3) := by decide +kernel
theorem dX9_form_15 : decode cX9_form 15 = .ok (.iload_n 1, 1) := by decide +kernel
theorem dX9_form_16 : decode cX9_form 16 = .ok (.invokevirtual 237, 3) := by decide +kernel
theorem dX9_form_19 : decode cX9_form 19 = .ok (.ireturn, 1) := by decide +kernel
theorem dX9_code_0 : decode cX9_code 0 = .ok (.aload_n 0, 1) := by decide +kernel
theorem dX9_code_1 : decode cX9_code 1 = .ok (.getfield 12, 3) := by decide +kernel
theorem dX9_code_4 : decode cX9_code 4 = .ok (.iload_n 1, 1) := by decide +kernel
theorem dX9_code_5 : decode cX9_code 5 = .ok (.invokevirtual 188, 3) := by decide +kernel
theorem dX9_code_8 : decode cX9_code 8 = .ok (.ifCond .eq 12, 3) := by decide +kernel
theorem dX9_code_11 : decode cX9_code 11 = .ok (.iload_n 2, 1) := by decide +kernel
theorem dX9_code_12 : decode cX9_code 12 = .ok (.ifCond .lt 8, 3) := by decide +kernel
theorem dX9_code_15 : decode cX9_code 15 = .ok (.iload_n 2, 1) := by decide +kernel
theorem dX9_code_16 : decode cX9_code 16 = .ok (.iconst 1, 1) := by decide +kernel
theorem dX9_code_17 : decode cX9_code 17 = .ok (.if_icmp .le 6, 3) := by decide +kernel
theorem dX9_code_20 : decode cX9_code 20 = .ok (.bipush (-2), 2) := by decide +kernel
theorem dX9_code_22 : decode cX9_code 22 = .ok (.ireturn, 1) := by decide +kernel
theorem dX9_code_23 : decode cX9_code 23 = .ok (.aload_n 0, 1) := by decide +kernel
theorem dX9_code_24 : decode cX9_code 24 = .ok (.getfield 98, 3) := by decide +kernel
theorem dX9_code_27 : decode cX9_code 27 = .ok (.aload_n 0, 1) := by decide +kernel
theorem dX9_code_28 : decode cX9_code 28 = .ok (.getfield 12, 3) := by decide +kernel
theorem dX9_code_31 : decode cX9_code 31 = .ok (.invokevirtual 135, 3) := by decide +kernel
theorem dX9_code_34 : decode cX9_code 34 = .ok (.invokevirtual 327, 3) := by decide +kernel
theorem dX9_code_37 : decode cX9_code 37 = .ok (.iload_n 2, 1) := by decide +kernel
theorem dX9_code_38 : decode cX9_code 38 = .ok (.ifCond .ne 14, 3) := by decide +kernel
theorem dX9_code_41 : decode cX9_code 41 = .ok (.aload_n 0, 1) := by decide +kernel
theorem dX9_code_42 : decode cX9_code 42 = .ok (.getfield 98, 3) := by decide +kernel
theorem dX9_code_45 : decode cX9_code 45 = .ok (.iload_n 1, 1) := by decide +kernel
theorem dX9_code_46 : decode cX9_code 46 = .ok (.invokevirtual 330, 3) := by decide +kernel
theorem dX9_code_49 : decode cX9_code 49 = .ok (.goto 11, 3) := by decide +kernel
theorem dX9_code_52 : decode cX9_code 52 = .ok (.aload_n 0, 1) := by decide +kernel
theorem dX9_code_53 : decode cX9_code 53 = .ok (.getfield 98, 3) := by decide +kernel
theorem dX9_code_56 : decode cX9_code 56 = .ok (.iload_n 1, 1) := by decide +kernel
theorem dX9_code_57 : decode cX9_code 57 = .ok (.invokevirtual 333, 3) := by decide +kernel
theorem dX9_code_60 : decode cX9_code 60 = .ok (.ireturn, 1) := by decide +kernel
theorem dX9_coded_0 : decode cX9_coded 0 = .ok (.iload_n 1, 1) := by decide +kernel
theorem dX9_coded_1 : decode cX9_coded 1 = .ok (.ifCond .ge 6, 3) := by decide +kernel
theorem dX9_coded_4 : decode cX9_coded 4 = .ok (.bipush (-3), 2) := by decide +kernel
theorem dX9_coded_6 : decode cX9_coded 6 = .ok (.ireturn, 1) := by decide +kernel
theorem dX9_coded_7 : decode cX9_coded 7 = .ok (.aload_n 0, 1) := by decide +kernel
theorem dX9_coded_8 : decode cX9_coded 8 = .ok (.getfield 98, 3) := by decide +kernel
theorem dX9_coded_11 : decode cX9_coded 11 = .ok (.aload_n 0, 1) := by decide +kernel
theorem dX9_coded_12 : decode cX9_coded 12 = .ok (.getfield 12, 3) := by decide +kernel
theorem dX9_coded_15 : decode cX9_coded 15 = .ok (.invokevirtual 135, 3) := by decide +kernel
theorem dX9_coded_18 : decode cX9_coded 18 = .ok (.invokevirtual 327, 3) := by decide +kernel
theorem dX9_coded_21 : decode cX9_coded 21 = .ok (.aload_n 0, 1) := by decide +kernel
theorem dX9_coded_22 : decode cX9_coded 22 = .ok (.getfield 98, 3) := by decide +kernel
theorem dX9_coded_25 : decode cX9_coded 25 = .ok (.iload_n 1, 1) := by decide +kernel
theorem dX9_coded_26 : decode cX9_coded 26 = .ok (.invokevirtual 336, 3) := by decide +kernel
theorem dX9_coded_29 : decode cX9_coded 29 = .ok (.ireturn, 1) := by decide +kernel
theorem dX9_undo_0 : decode cX9_undo 0 = .ok (.iload_n 1, 1) := by decide +kernel
theorem dX9_undo_1 : decode cX9_undo 1 = .ok (.iconst 1, 1) := by decide +kernel
theorem dX9_undo_2 : decode cX9_undo 2 = .ok (.if_icmp .lt 14, 3) := by decide +kernel
theorem dX9_undo_5 : decode cX9_undo 5 = .ok (.iload_n 1, 1) := by decide +kernel
theorem dX9_undo_6 : decode cX9_undo 6 = .ok (.aload_n 0, 1) := by decide +kernel
theorem dX9_undo_7 : decode cX9_undo 7 = .ok (.getfield 19, 3) := by decide +kernel
theorem dX9_undo_10 : decode cX9_undo 10 = .ok (.invokevirtual 339, 3) := by decide +kernel
theorem dX9_undo_13 : decode cX9_undo 13 = .ok (.if_icmp .le 6, 3) := by decide +kernel
theorem dX9_undo_16 : decode cX9_undo 16 = .ok (.bipush (-3), 2) := by decide +kernel
theorem dX9_undo_18 : decode cX9_undo 18 = .ok (.ireturn, 1) := by decide +kernel
theorem dX9_undo_19 : decode cX9_undo 19 = .ok (.aload_n 0, 1) := by decide +kernel
theorem dX9_undo_20 : decode cX9_undo 20 = .ok (.getfield 19, 3) := by decide +kernel
theorem dX9_undo_23 : decode cX9_undo 23 = .ok (.iload_n 1, 1) := by decide +kernel
theorem dX9_undo_24 : decode cX9_undo 24 = .ok (.aload_n 0, 1) := by decide +kernel
theorem dX9_undo_25 : decode cX9_undo 25 = .ok (.getfield 12, 3) := by decide +kernel
theorem dX9_undo_28 : decode cX9_undo 28 = .ok (.invokevirtual 340, 3) := by decide +kernel
theorem dX9_undo_31 : decode cX9_undo 31 = .ok (.aload_n 0, 1) := by decide +kernel
theorem dX9_undo_32 : decode cX9_undo 32 = .ok (.iconst 0, 1) := by decide +kernel
theorem dX9_undo_33 : decode cX9_undo 33 = .ok (.putfield 71, 3) := by decide +kernel
theorem dX9_undo_36 : decode cX9_undo 36 = .ok (.aload_n 0, 1) := by decide +kernel
theorem dX9_undo_37 : decode cX9_undo 37 = .ok (.getfield 19, 3) := by decide +kernel
theorem dX9_undo_40 : decode cX9_undo 40 = .ok (.invokevirtual 339, 3) := by decide +kernel
theorem dX9_undo_43 : decode cX9_undo 43 = .ok (.ireturn, 1) := by decide +kernel
theorem dX9_image_0 : decode cX9_image 0 = .ok (.iload_n 1, 1) := by decide +kernel
theorem dX9_image_1 : decode cX9_image 1 = .ok (.ifCond .lt 8, 3) := by decide +kernel
theorem dX9_image_4 : decode cX9_image 4 = .ok (.iload_n 1, 1) := by decide +kernel
theorem dX9_image_5 : decode cX9_image 5 = .ok (.iconst 2, 1) := by decide +kernel
theorem dX9_image_6 : decode cX9_image 6 = .ok (.if_icmp .lt 6, 3) := by decide +kernel
theorem dX9_image_9 : decode cX9_image 9 = .ok (.bipush (-2), 2) := by decide +kernel
theorem dX9_image_11 : decode cX9_image 11 = .ok (.ireturn, 1) := by decide +kernel
theorem dX9_image_12 : decode cX9_image 12 = .ok (.aload_n 0, 1) := by decide +kernel
theorem dX9_image_13 : decode cX9_image 13 = .ok (.getfield 23, 3) := by decide +kernel
theorem dX9_image_16 : decode cX9_image 16 = .ok (.iload_n 1, 1) := by decide +kernel
theorem dX9_image_17 : decode cX9_image 17 = .ok (.aaload, 1) := by decide +kernel
theorem dX9_image_18 : decode cX9_image 18 = .ok (.aload_n 0, 1) := by decide +kernel
theorem dX9_image_19 : decode cX9_image 19 = .ok (.getfield 12, 3) := by decide +kernel
theorem dX9_image_22 : decode cX9_image 22 = .ok (.invokevirtual 162, 3) := by decide +kernel
theorem dX9_image_25 : decode cX9_image 25 = .ok (.aload_n 0, 1) := by decide +kernel
theorem dX9_image_26 : decode cX9_image 26 = .ok (.getfield 27, 3) := by decide +kernel
theorem dX9_image_29 : decode cX9_image 29 = .ok (.iload_n 1, 1) := by decide +kernel
theorem dX9_image_30 : decode cX9_image 30 = .ok (.iconst 1, 1) := by decide +kernel
theorem dX9_image_31 : decode cX9_image 31 = .ok (.bastore, 1) := by decide +kernel
theorem dX9_image_32 : decode cX9_image 32 = .ok (.iconst 0, 1) := by decide +kernel
theorem dX9_image_33 : decode cX9_image 33 = .ok (.ireturn, 1) := by decide +kernel
theorem dX9_restore_0 : decode cX9_restore 0 = .ok (.iload_n 1, 1) := by decide +kernel
theorem dX9_restore_1 : decode cX9_restore 1 = .ok (.ifCond .lt 8, 3) := by decide +kernel
theorem dX9_restore_4 : decode cX9_restore 4 = .ok (.iload_n 1, 1) := by decide +kernel
theorem dX9_restore_5 : decode cX9_restore 5 = .ok (.iconst 2, 1) := by decide +kernel
theorem dX9_restore_6 : decode cX9_restore 6 = .ok (.if_icmp .lt 6, 3) := by decide +kernel
theorem dX9_restore_9 : decode cX9_restore 9 = .ok (.bipush (-2), 2) := by decide +kernel
theorem dX9_restore_11 : decode cX9_restore 11 = .ok (.ireturn, 1) := by decide +kernel
theorem dX9_restore_12 : decode cX9_restore 12 = .ok (.aload_n 0, 1) := by decide +kernel
theorem dX9_restore_13 : decode cX9_restore 13 = .ok (.getfield 27, 3) := by decide +kernel
theorem dX9_restore_16 : decode cX9_restore 16 = .ok (.iload_n 1, 1) := by decide +kernel
theorem dX9_restore_17 : decode cX9_restore 17 = .ok (.baload, 1) := by decide +kernel
theorem dX9_restore_18 : decode cX9_restore 18 = .ok (.ifCond .ne 6, 3) := by decide +kernel
theorem dX9_restore_21 : decode cX9_restore 21 = .ok (.bipush (-6), 2) := by decide +kernel
theorem dX9_restore_23 : decode cX9_restore 23 = .ok (.ireturn, 1) := by decide +kernel
theorem dX9_restore_24 : decode cX9_restore 24 = .ok (.aload_n 0, 1) := by decide +kernel
theorem dX9_restore_25 : decode cX9_restore 25 = .ok (.getfield 12, 3) := by decide +kernel
theorem dX9_restore_28 : decode cX9_restore 28 = .ok (.aload_n 0, 1) := by decide +kernel
theorem dX9_restore_29 : decode cX9_restore 29 = .ok (.getfield 23, 3) := by decide +kernel
theorem dX9_restore_32 : decode cX9_restore 32 = .ok (.iload_n 1, 1) := by decide +kernel
theorem dX9_restore_33 : decode cX9_restore 33 = .ok (.aaload, 1) := by decide +kernel
theorem dX9_restore_34 : decode cX9_restore 34 = .ok (.invokevirtual 162, 3) := by decide +kernel
theorem dX9_restore_37 : decode cX9_restore 37 = .ok (.aload_n 0, 1) := by decide +kernel
theorem dX9_restore_38 : decode cX9_restore 38 = .ok (.getfield 19, 3) := by decide +kernel
theorem dX9_restore_41 : decode cX9_restore 41 = .ok (.invokevirtual 344, 3) := by decide +kernel
theorem dX9_restore_44 : decode cX9_restore 44 = .ok (.aload_n 0, 1) := by decide +kernel
theorem dX9_restore_45 : decode cX9_restore 45 = .ok (.iconst 0, 1) := by decide +kernel
theorem dX9_restore_46 : decode cX9_restore 46 = .ok (.putfield 71, 3) := by decide +kernel
theorem dX9_restore_49 : decode cX9_restore 49 = .ok (.iconst 0, 1) := by decide +kernel
theorem dX9_restore_50 : decode cX9_restore 50 = .ok (.ireturn, 1) := by decide +kernel
theorem dX9_count_0 : decode cX9_count 0 = .ok (.aload_n 0, 1) := by decide +kernel
theorem dX9_count_1 : decode cX9_count 1 = .ok (.invokevirtual 144, 3) := by decide +kernel
theorem dX9_count_4 : decode cX9_count 4 = .ok (.iload_n 1, 1) := by decide +kernel
theorem dX9_count_5 : decode cX9_count 5 = .ok (.tableswitch 179 0 10 #[59, 67, 78, 86, 94, 99, 107, 115, 137, 145, 157], 59) := by decide +kernel
theorem dX9_count_64 : decode cX9_count 64 = .ok (.aload_n 0, 1) := by decide +kernel
theorem dX9_count_65 : decode cX9_count 65 = .ok (.getfield 67, 3) := by decide +kernel
theorem dX9_count_68 : decode cX9_count 68 = .ok (.invokevirtual 207, 3) := by decide +kernel
theorem dX9_count_71 : decode cX9_count 71 = .ok (.ireturn, 1) := by decide +kernel
theorem dX9_count_72 : decode cX9_count 72 = .ok (.aload_n 0, 1) := by decide +kernel
theorem dX9_count_73 : decode cX9_count 73 = .ok (.getfield 12, 3) := by decide +kernel
theorem dX9_count_76 : decode cX9_count 76 = .ok (.invokevirtual 135, 3) := by decide +kernel
theorem dX9_count_79 : decode cX9_count 79 = .ok (.invokevirtual 105, 3) := by decide +kernel
theorem dX9_count_82 : decode cX9_count 82 = .ok (.ireturn, 1) := by decide +kernel
theorem dX9_count_83 : decode cX9_count 83 = .ok (.aload_n 0, 1) := by decide +kernel
theorem dX9_count_84 : decode cX9_count 84 = .ok (.getfield 12, 3) := by decide +kernel
theorem dX9_count_87 : decode cX9_count 87 = .ok (.invokevirtual 347, 3) := by decide +kernel
theorem dX9_count_90 : decode cX9_count 90 = .ok (.ireturn, 1) := by decide +kernel
theorem dX9_count_91 : decode cX9_count 91 = .ok (.aload_n 0, 1) := by decide +kernel
theorem dX9_count_92 : decode cX9_count 92 = .ok (.getfield 12, 3) := by decide +kernel
theorem dX9_count_95 : decode cX9_count 95 = .ok (.invokevirtual 203, 3) := by decide +kernel
theorem dX9_count_98 : decode cX9_count 98 = .ok (.ireturn, 1) := by decide +kernel
theorem dX9_count_99 : decode cX9_count 99 = .ok (.aload_n 0, 1) := by decide +kernel
theorem dX9_count_100 : decode cX9_count 100 = .ok (.invokevirtual 350, 3) := by decide +kernel
theorem dX9_count_103 : decode cX9_count 103 = .ok (.ireturn, 1) := by decide +kernel
theorem dX9_count_104 : decode cX9_count 104 = .ok (.aload_n 0, 1) := by decide +kernel
theorem dX9_count_105 : decode cX9_count 105 = .ok (.getfield 36, 3) := by decide +kernel
theorem dX9_count_108 : decode cX9_count 108 = .ok (.invokevirtual 105, 3) := by decide +kernel
theorem dX9_count_111 : decode cX9_count 111 = .ok (.ireturn, 1) := by decide +kernel
theorem dX9_count_112 : decode cX9_count 112 = .ok (.aload_n 0, 1) := by decide +kernel
theorem dX9_count_113 : decode cX9_count 113 = .ok (.getfield 19, 3) := by decide +kernel
theorem dX9_count_116 : decode cX9_count 116 = .ok (.invokevirtual 339, 3) := by decide +kernel
theorem dX9_count_119 : decode cX9_count 119 = .ok (.ireturn, 1) := by decide +kernel
theorem dX9_count_120 : decode cX9_count 120 = .ok (.aload_n 0, 1) := by decide +kernel
theorem dX9_count_121 : decode cX9_count 121 = .ok (.getfield 84, 3) := by decide +kernel
theorem dX9_count_124 : decode cX9_count 124 = .ok (.aload_n 0, 1) := by decide +kernel
theorem dX9_count_125 : decode cX9_count 125 = .ok (.getfield 12, 3) := by decide +kernel
theorem dX9_count_128 : decode cX9_count 128 = .ok (.invokevirtual 135, 3) := by decide +kernel
theorem dX9_count_131 : decode cX9_count 131 = .ok (.invokevirtual 168, 3) := by decide +kernel
theorem dX9_count_134 : decode cX9_count 134 = .ok (.aload_n 0, 1) := by decide +kernel
theorem dX9_count_135 : decode cX9_count 135 = .ok (.getfield 84, 3) := by decide +kernel
theorem dX9_count_138 : decode cX9_count 138 = .ok (.invokevirtual 353, 3) := by decide +kernel
theorem dX9_count_141 : decode cX9_count 141 = .ok (.ireturn, 1) := by decide +kernel
theorem dX9_count_142 : decode cX9_count 142 = .ok (.aload_n 0, 1) := by decide +kernel
theorem dX9_count_143 : decode cX9_count 143 = .ok (.getfield 12, 3) := by decide +kernel
theorem dX9_count_146 : decode cX9_count 146 = .ok (.invokevirtual 356, 3) := by decide +kernel
theorem dX9_count_149 : decode cX9_count 149 = .ok (.ireturn, 1) := by decide +kernel
theorem dX9_count_150 : decode cX9_count 150 = .ok (.aload_n 0, 1) := by decide +kernel
theorem dX9_count_151 : decode cX9_count 151 = .ok (.invokevirtual 324, 3) := by decide +kernel
theorem dX9_count_154 : decode cX9_count 154 = .ok (.aload_n 0, 1) := by decide +kernel
theorem dX9_count_155 : decode cX9_count 155 = .ok (.getfield 102, 3) := by decide +kernel
theorem dX9_count_158 : decode cX9_count 158 = .ok (.invokevirtual 105, 3) := by decide +kernel
theorem dX9_count_161 : decode cX9_count 161 = .ok (.ireturn, 1) := by decide +kernel
theorem dX9_count_162 : decode cX9_count 162 = .ok (.aload_n 0, 1) := by decide +kernel
theorem dX9_count_163 : decode cX9_count 163 = .ok (.getfield 98, 3) := by decide +kernel
theorem dX9_count_166 : decode cX9_count 166 = .ok (.aload_n 0, 1) := by decide +kernel
theorem dX9_count_167 : decode cX9_count 167 = .ok (.getfield 12, 3) := by decide +kernel
theorem dX9_count_170 : decode cX9_count 170 = .ok (.invokevirtual 135, 3) := by decide +kernel
theorem dX9_count_173 : decode cX9_count 173 = .ok (.invokevirtual 327, 3) := by decide +kernel
theorem dX9_count_176 : decode cX9_count 176 = .ok (.aload_n 0, 1) := by decide +kernel
theorem dX9_count_177 : decode cX9_count 177 = .ok (.getfield 98, 3) := by decide +kernel
theorem dX9_count_180 : decode cX9_count 180 = .ok (.invokevirtual 359, 3) := by decide +kernel
theorem dX9_count_183 : decode cX9_count 183 = .ok (.ireturn, 1) := by decide +kernel
theorem dX9_count_184 : decode cX9_count 184 = .ok (.iconst (-1), 1) := by decide +kernel
theorem dX9_count_185 : decode cX9_count 185 = .ok (.ireturn, 1) := by decide +kernel
theorem dX9_isLetter_0 : decode cX9_isLetter 0 = .ok (.iload_n 0, 1) := by decide +kernel
theorem dX9_isLetter_1 : decode cX9_isLetter 1 = .ok (.ifCond .lt 13, 3) := by decide +kernel
theorem dX9_isLetter_4 : decode cX9_isLetter 4 = .ok (.iload_n 0, 1) := by decide +kernel
theorem dX9_isLetter_5 : decode cX9_isLetter 5 = .ok (.bipush 26, 2) := by decide +kernel
theorem dX9_isLetter_7 : decode cX9_isLetter 7 = .ok (.if_icmp .ge 7, 3) := by decide +kernel
theorem dX9_isLetter_10 : decode cX9_isLetter 10 = .ok (.iconst 1, 1) := by decide +kernel
theorem dX9_isLetter_11 : decode cX9_isLetter 11 = .ok (.goto 4, 3) := by decide +kernel
theorem dX9_isLetter_14 : decode cX9_isLetter 14 = .ok (.iconst 0, 1) := by decide +kernel
theorem dX9_isLetter_15 : decode cX9_isLetter 15 = .ok (.ireturn, 1) := by decide +kernel
theorem dX9_read_0 : decode cX9_read 0 = .ok (.aload_n 0, 1) := by decide +kernel
theorem dX9_read_1 : decode cX9_read 1 = .ok (.getfield 71, 3) := by decide +kernel
theorem dX9_read_4 : decode cX9_read 4 = .ok (.ifCond .eq 4, 3) := by decide +kernel
theorem dX9_read_7 : decode cX9_read 7 = .ok (.return_, 1) := by decide +kernel
theorem dX9_read_8 : decode cX9_read 8 = .ok (.aload_n 0, 1) := by decide +kernel
theorem dX9_read_9 : decode cX9_read 9 = .ok (.getfield 60, 3) := by decide +kernel
theorem dX9_read_12 : decode cX9_read 12 = .ok (.aload_n 0, 1) := by decide +kernel
theorem dX9_read_13 : decode cX9_read 13 = .ok (.getfield 12, 3) := by decide +kernel
theorem dX9_read_16 : decode cX9_read 16 = .ok (.invokevirtual 362, 3) := by decide +kernel
theorem dX9_read_19 : decode cX9_read 19 = .ok (.aload_n 0, 1) := by decide +kernel
theorem dX9_read_20 : decode cX9_read 20 = .ok (.getfield 67, 3) := by decide +kernel
theorem dX9_read_23 : decode cX9_read 23 = .ok (.aload_n 0, 1) := by decide +kernel
theorem dX9_read_24 : decode cX9_read 24 = .ok (.getfield 12, 3) := by decide +kernel
theorem dX9_read_27 : decode cX9_read 27 = .ok (.invokevirtual 135, 3) := by decide +kernel
theorem dX9_read_30 : decode cX9_read 30 = .ok (.aload_n 0, 1) := by decide +kernel
theorem dX9_read_31 : decode cX9_read 31 = .ok (.getfield 12, 3) := by decide +kernel
theorem dX9_read_34 : decode cX9_read 34 = .ok (.aload_n 0, 1) := by decide +kernel
theorem dX9_read_35 : decode cX9_read 35 = .ok (.getfield 60, 3) := by decide +kernel
theorem dX9_read_38 : decode cX9_read 38 = .ok (.invokevirtual 365, 3) := by decide +kernel
theorem dX9_read_41 : decode cX9_read 41 = .ok (.aload_n 0, 1) := by decide +kernel
theorem dX9_read_42 : decode cX9_read 42 = .ok (.iconst 1, 1) := by decide +kernel
theorem dX9_read_43 : decode cX9_read 43 = .ok (.putfield 71, 3) := by decide +kernel
theorem dX9_read_46 : decode cX9_read 46 = .ok (.return_, 1) := by decide +kernel
theorem dX9_letterCount_0 : decode cX9_letterCount 0 = .ok (.aload_n 0, 1) := by decide +kernel
theorem dX9_letterCount_1 : decode cX9_letterCount 1 = .ok (.invokevirtual 144, 3) := by decide +kernel
theorem dX9_letterCount_4 : decode cX9_letterCount 4 = .ok (.aload_n 0, 1) := by decide +kernel
theorem dX9_letterCount_5 : decode cX9_letterCount 5 = .ok (.getfield 67, 3) := by decide +kernel
theorem dX9_letterCount_8 : decode cX9_letterCount 8 = .ok (.invokevirtual 207, 3) := by decide +kernel
theorem dX9_letterCount_11 : decode cX9_letterCount 11 = .ok (.ireturn, 1) := by decide +kernel
theorem dX9_isStretch_0 : decode cX9_isStretch 0 = .ok (.aload_n 0, 1) := by decide +kernel
theorem dX9_isStretch_1 : decode cX9_isStretch 1 = .ok (.invokevirtual 144, 3) := by decide +kernel
theorem dX9_isStretch_4 : decode cX9_isStretch 4 = .ok (.iload_n 1, 1) := by decide +kernel
theorem dX9_isStretch_5 : decode cX9_isStretch 5 = .ok (.ifCond .lt 31, 3) := by decide +kernel
theorem dX9_isStretch_8 : decode cX9_isStretch 8 = .ok (.iload_n 1, 1) := by decide +kernel
theorem dX9_isStretch_9 : decode cX9_isStretch 9 = .ok (.aload_n 0, 1) := by decide +kernel
theorem dX9_isStretch_10 : decode cX9_isStretch 10 = .ok (.getfield 67, 3) := by decide +kernel
theorem dX9_isStretch_13 : decode cX9_isStretch 13 = .ok (.invokevirtual 207, 3) := by decide +kernel
theorem dX9_isStretch_16 : decode cX9_isStretch 16 = .ok (.if_icmp .gt 20, 3) := by decide +kernel
theorem dX9_isStretch_19 : decode cX9_isStretch 19 = .ok (.iload_n 2, 1) := by decide +kernel
theorem dX9_isStretch_20 : decode cX9_isStretch 20 = .ok (.aload_n 0, 1) := by decide +kernel
theorem dX9_isStretch_21 : decode cX9_isStretch 21 = .ok (.getfield 67, 3) := by decide +kernel
theorem dX9_isStretch_24 : decode cX9_isStretch 24 = .ok (.invokevirtual 207, 3) := by decide +kernel
theorem dX9_isStretch_27 : decode cX9_isStretch 27 = .ok (.iload_n 1, 1) := by decide +kernel
theorem dX9_isStretch_28 : decode cX9_isStretch 28 = .ok (.isub, 1) := by decide +kernel
theorem dX9_isStretch_29 : decode cX9_isStretch 29 = .ok (.if_icmp .gt 7, 3) := by decide +kernel
theorem dX9_isStretch_32 : decode cX9_isStretch 32 = .ok (.iconst 1, 1) := by decide +kernel
theorem dX9_isStretch_33 : decode cX9_isStretch 33 = .ok (.goto 4, 3) := by decide +kernel
theorem dX9_isStretch_36 : decode cX9_isStretch 36 = .ok (.iconst 0, 1) := by decide +kernel
theorem dX9_isStretch_37 : decode cX9_isStretch 37 = .ok (.ireturn, 1) := by decide +kernel
theorem dX9_feedOne_0 : decode cX9_feedOne 0 = .ok (.bipush 24, 2) := by decide +kernel
theorem dX9_feedOne_2 : decode cX9_feedOne 2 = .ok (.istore_n 2, 1) := by decide +kernel
theorem dX9_feedOne_3 : decode cX9_feedOne 3 = .ok (.iload_n 2, 1) := by decide +kernel
theorem dX9_feedOne_4 : decode cX9_feedOne 4 = .ok (.ifCond .lt 23, 3) := by decide +kernel
theorem dX9_feedOne_7 : decode cX9_feedOne 7 = .ok (.aload_n 0, 1) := by decide +kernel
theorem dX9_feedOne_8 : decode cX9_feedOne 8 = .ok (.getfield 36, 3) := by decide +kernel
theorem dX9_feedOne_11 : decode cX9_feedOne 11 = .ok (.iload_n 1, 1) := by decide +kernel
theorem dX9_feedOne_12 : decode cX9_feedOne 12 = .ok (.iload_n 2, 1) := by decide +kernel
theorem dX9_feedOne_13 : decode cX9_feedOne 13 = .ok (.iushr, 1) := by decide +kernel
theorem dX9_feedOne_14 : decode cX9_feedOne 14 = .ok (.sipush 255, 3) := by decide +kernel
theorem dX9_feedOne_17 : decode cX9_feedOne 17 = .ok (.iand, 1) := by decide +kernel
theorem dX9_feedOne_18 : decode cX9_feedOne 18 = .ok (.invokevirtual 211, 3) := by decide +kernel
theorem dX9_feedOne_21 : decode cX9_feedOne 21 = .ok (.iinc 2 (-8), 3) := by decide +kernel
theorem dX9_feedOne_24 : decode cX9_feedOne 24 = .ok (.goto (-21), 3) := by decide +kernel
theorem dX9_feedOne_27 : decode cX9_feedOne 27 = .ok (.return_, 1) := by decide +kernel
theorem dX9_isOnTape_0 : decode cX9_isOnTape 0 = .ok (.iload_n 1, 1) := by decide +kernel
theorem dX9_isOnTape_1 : decode cX9_isOnTape 1 = .ok (.ifCond .lt 18, 3) := by decide +kernel
theorem dX9_isOnTape_4 : decode cX9_isOnTape 4 = .ok (.iload_n 1, 1) := by decide +kernel
theorem dX9_isOnTape_5 : decode cX9_isOnTape 5 = .ok (.aload_n 0, 1) := by decide +kernel
theorem dX9_isOnTape_6 : decode cX9_isOnTape 6 = .ok (.getfield 36, 3) := by decide +kernel
theorem dX9_isOnTape_9 : decode cX9_isOnTape 9 = .ok (.invokevirtual 105, 3) := by decide +kernel
theorem dX9_isOnTape_12 : decode cX9_isOnTape 12 = .ok (.if_icmp .gt 7, 3) := by decide +kernel
theorem dX9_isOnTape_15 : decode cX9_isOnTape 15 = .ok (.iconst 1, 1) := by decide +kernel
theorem dX9_isOnTape_16 : decode cX9_isOnTape 16 = .ok (.goto 4, 3) := by decide +kernel
theorem dX9_isOnTape_19 : decode cX9_isOnTape 19 = .ok (.iconst 0, 1) := by decide +kernel
theorem dX9_isOnTape_20 : decode cX9_isOnTape 20 = .ok (.ireturn, 1) := by decide +kernel
theorem dX9_firstNoLetter_0 : decode cX9_firstNoLetter 0 = .ok (.iconst 0, 1) := by decide +kernel
theorem dX9_firstNoLetter_1 : decode cX9_firstNoLetter 1 = .ok (.istore_n 2, 1) := by decide +kernel
theorem dX9_firstNoLetter_2 : decode cX9_firstNoLetter 2 = .ok (.iload_n 2, 1) := by decide +kernel
theorem dX9_firstNoLetter_3 : decode cX9_firstNoLetter 3 = .ok (.iload_n 1, 1) := by decide +kernel
theorem dX9_firstNoLetter_4 : decode cX9_firstNoLetter 4 = .ok (.if_icmp .ge 28, 3) := by decide +kernel
theorem dX9_firstNoLetter_7 : decode cX9_firstNoLetter 7 = .ok (.aload_n 0, 1) := by decide +kernel
theorem dX9_firstNoLetter_8 : decode cX9_firstNoLetter 8 = .ok (.getfield 36, 3) := by decide +kernel
theorem dX9_firstNoLetter_11 : decode cX9_firstNoLetter 11 = .ok (.iload_n 2, 1) := by decide +kernel
theorem dX9_firstNoLetter_12 : decode cX9_firstNoLetter 12 = .ok (.invokevirtual 237, 3) := by decide +kernel
theorem dX9_firstNoLetter_15 : decode cX9_firstNoLetter 15 = .ok (.bipush 97, 2) := by decide +kernel
theorem dX9_firstNoLetter_17 : decode cX9_firstNoLetter 17 = .ok (.isub, 1) := by decide +kernel
theorem dX9_firstNoLetter_18 : decode cX9_firstNoLetter 18 = .ok (.invokestatic 214, 3) := by decide +kernel
theorem dX9_firstNoLetter_21 : decode cX9_firstNoLetter 21 = .ok (.ifCond .ne 5, 3) := by decide +kernel
theorem dX9_firstNoLetter_24 : decode cX9_firstNoLetter 24 = .ok (.iload_n 2, 1) := by decide +kernel
theorem dX9_firstNoLetter_25 : decode cX9_firstNoLetter 25 = .ok (.ireturn, 1) := by decide +kernel
theorem dX9_firstNoLetter_26 : decode cX9_firstNoLetter 26 = .ok (.iinc 2 1, 3) := by decide +kernel
theorem dX9_firstNoLetter_29 : decode cX9_firstNoLetter 29 = .ok (.goto (-27), 3) := by decide +kernel
theorem dX9_firstNoLetter_32 : decode cX9_firstNoLetter 32 = .ok (.iconst (-1), 1) := by decide +kernel
theorem dX9_firstNoLetter_33 : decode cX9_firstNoLetter 33 = .ok (.ireturn, 1) := by decide +kernel
theorem dX9_takeLetters_0 : decode cX9_takeLetters 0 = .ok (.iconst 0, 1) := by decide +kernel
theorem dX9_takeLetters_1 : decode cX9_takeLetters 1 = .ok (.istore_n 3, 1) := by decide +kernel
theorem dX9_takeLetters_2 : decode cX9_takeLetters 2 = .ok (.iload_n 3, 1) := by decide +kernel
theorem dX9_takeLetters_3 : decode cX9_takeLetters 3 = .ok (.iload_n 1, 1) := by decide +kernel
theorem dX9_takeLetters_4 : decode cX9_takeLetters 4 = .ok (.if_icmp .ge 24, 3) := by decide +kernel
theorem dX9_takeLetters_7 : decode cX9_takeLetters 7 = .ok (.aload_n 2, 1) := by decide +kernel
theorem dX9_takeLetters_8 : decode cX9_takeLetters 8 = .ok (.aload_n 0, 1) := by decide +kernel
theorem dX9_takeLetters_9 : decode cX9_takeLetters 9 = .ok (.getfield 36, 3) := by decide +kernel
theorem dX9_takeLetters_12 : decode cX9_takeLetters 12 = .ok (.iload_n 3, 1) := by decide +kernel
theorem dX9_takeLetters_13 : decode cX9_takeLetters 13 = .ok (.invokevirtual 237, 3) := by decide +kernel
theorem dX9_takeLetters_16 : decode cX9_takeLetters 16 = .ok (.bipush 97, 2) := by decide +kernel
theorem dX9_takeLetters_18 : decode cX9_takeLetters 18 = .ok (.isub, 1) := by decide +kernel
theorem dX9_takeLetters_19 : decode cX9_takeLetters 19 = .ok (.invokevirtual 211, 3) := by decide +kernel
theorem dX9_takeLetters_22 : decode cX9_takeLetters 22 = .ok (.iinc 3 1, 3) := by decide +kernel
theorem dX9_takeLetters_25 : decode cX9_takeLetters 25 = .ok (.goto (-23), 3) := by decide +kernel
theorem dX9_takeLetters_28 : decode cX9_takeLetters 28 = .ok (.return_, 1) := by decide +kernel
theorem dX9_endTape_0 : decode cX9_endTape 0 = .ok (.aload_n 0, 1) := by decide +kernel
theorem dX9_endTape_1 : decode cX9_endTape 1 = .ok (.getfield 36, 3) := by decide +kernel
theorem dX9_endTape_4 : decode cX9_endTape 4 = .ok (.invokevirtual 143, 3) := by decide +kernel
theorem dX9_endTape_7 : decode cX9_endTape 7 = .ok (.aload_n 0, 1) := by decide +kernel
theorem dX9_endTape_8 : decode cX9_endTape 8 = .ok (.iload_n 1, 1) := by decide +kernel
theorem dX9_endTape_9 : decode cX9_endTape 9 = .ok (.putfield 50, 3) := by decide +kernel
theorem dX9_endTape_12 : decode cX9_endTape 12 = .ok (.aload_n 0, 1) := by decide +kernel
theorem dX9_endTape_13 : decode cX9_endTape 13 = .ok (.iload_n 2, 1) := by decide +kernel
theorem dX9_endTape_14 : decode cX9_endTape 14 = .ok (.putfield 54, 3) := by decide +kernel
theorem dX9_endTape_17 : decode cX9_endTape 17 = .ok (.return_, 1) := by decide +kernel
theorem dX9_refuseTape_0 : decode cX9_refuseTape 0 = .ok (.aload_n 0, 1) := by decide +kernel
theorem dX9_refuseTape_1 : decode cX9_refuseTape 1 = .ok (.iload_n 1, 1) := by decide +kernel
theorem dX9_refuseTape_2 : decode cX9_refuseTape 2 = .ok (.iload_n 2, 1) := by decide +kernel
theorem dX9_refuseTape_3 : decode cX9_refuseTape 3 = .ok (.invokevirtual 116, 3) := by decide +kernel
theorem dX9_refuseTape_6 : decode cX9_refuseTape 6 = .ok (.bipush (-30), 2) := by decide +kernel
theorem dX9_refuseTape_8 : decode cX9_refuseTape 8 = .ok (.iload_n 1, 1) := by decide +kernel
theorem dX9_refuseTape_9 : decode cX9_refuseTape 9 = .ok (.isub, 1) := by decide +kernel
theorem dX9_refuseTape_10 : decode cX9_refuseTape 10 = .ok (.ireturn, 1) := by decide +kernel
theorem dX9_join_0 : decode cX9_join 0 = .ok (.aload_n 0, 1) := by decide +kernel
theorem dX9_join_1 : decode cX9_join 1 = .ok (.getfield 12, 3) := by decide +kernel
theorem dX9_join_4 : decode cX9_join 4 = .ok (.iload_n 1, 1) := by decide +kernel
theorem dX9_join_5 : decode cX9_join 5 = .ok (.iload_n 2, 1) := by decide +kernel
theorem dX9_join_6 : decode cX9_join 6 = .ok (.invokevirtual 369, 3) := by decide +kernel
theorem dX9_join_9 : decode cX9_join 9 = .ok (.iconst (-1), 1) := by decide +kernel
theorem dX9_join_10 : decode cX9_join 10 = .ok (.if_icmp .ne 6, 3) := by decide +kernel
theorem dX9_join_13 : decode cX9_join 13 = .ok (.bipush (-4), 2) := by decide +kernel
theorem dX9_join_15 : decode cX9_join 15 = .ok (.ireturn, 1) := by decide +kernel
theorem dX9_join_16 : decode cX9_join 16 = .ok (.aload_n 0, 1) := by decide +kernel
theorem dX9_join_17 : decode cX9_join 17 = .ok (.getfield 19, 3) := by decide +kernel
theorem dX9_join_20 : decode cX9_join 20 = .ok (.aload_n 0, 1) := by decide +kernel
theorem dX9_join_21 : decode cX9_join 21 = .ok (.getfield 12, 3) := by decide +kernel
theorem dX9_join_24 : decode cX9_join 24 = .ok (.invokevirtual 128, 3) := by decide +kernel
theorem dX9_join_27 : decode cX9_join 27 = .ok (.aload_n 0, 1) := by decide +kernel
theorem dX9_join_28 : decode cX9_join 28 = .ok (.iconst 0, 1) := by decide +kernel
theorem dX9_join_29 : decode cX9_join 29 = .ok (.putfield 71, 3) := by decide +kernel
theorem dX9_join_32 : decode cX9_join 32 = .ok (.aload_n 0, 1) := by decide +kernel
theorem dX9_join_33 : decode cX9_join 33 = .ok (.getfield 12, 3) := by decide +kernel
theorem dX9_join_36 : decode cX9_join 36 = .ok (.iload_n 1, 1) := by decide +kernel
theorem dX9_join_37 : decode cX9_join 37 = .ok (.iload_n 2, 1) := by decide +kernel
theorem dX9_join_38 : decode cX9_join 38 = .ok (.invokevirtual 372, 3) := by decide +kernel
theorem dX9_join_41 : decode cX9_join 41 = .ok (.ireturn, 1) := by decide +kernel
theorem dX9_packBest_0 : decode cX9_packBest 0 = .ok (.aload_n 0, 1) := by decide +kernel
theorem dX9_packBest_1 : decode cX9_packBest 1 = .ok (.getfield 84, 3) := by decide +kernel
theorem dX9_packBest_4 : decode cX9_packBest 4 = .ok (.aload_n 0, 1) := by decide +kernel
theorem dX9_packBest_5 : decode cX9_packBest 5 = .ok (.getfield 12, 3) := by decide +kernel
theorem dX9_packBest_8 : decode cX9_packBest 8 = .ok (.invokevirtual 135, 3) := by decide +kernel
theorem dX9_packBest_11 : decode cX9_packBest 11 = .ok (.invokevirtual 168, 3) := by decide +kernel
theorem dX9_packBest_14 : decode cX9_packBest 14 = .ok (.aload_n 0, 1) := by decide +kernel
theorem dX9_packBest_15 : decode cX9_packBest 15 = .ok (.getfield 84, 3) := by decide +kernel
theorem dX9_packBest_18 : decode cX9_packBest 18 = .ok (.iconst 0, 1) := by decide +kernel
theorem dX9_packBest_19 : decode cX9_packBest 19 = .ok (.invokevirtual 172, 3) := by decide +kernel
theorem dX9_packBest_22 : decode cX9_packBest 22 = .ok (.istore_n 1, 1) := by decide +kernel
theorem dX9_packBest_23 : decode cX9_packBest 23 = .ok (.iload_n 1, 1) := by decide +kernel
theorem dX9_packBest_24 : decode cX9_packBest 24 = .ok (.iconst (-1), 1) := by decide +kernel
theorem dX9_packBest_25 : decode cX9_packBest 25 = .ok (.if_icmp .eq 26, 3) := by decide +kernel
theorem dX9_packBest_28 : decode cX9_packBest 28 = .ok (.aload_n 0, 1) := by decide +kernel
theorem dX9_packBest_29 : decode cX9_packBest 29 = .ok (.getfield 12, 3) := by decide +kernel
theorem dX9_packBest_32 : decode cX9_packBest 32 = .ok (.iload_n 1, 1) := by decide +kernel
theorem dX9_packBest_33 : decode cX9_packBest 33 = .ok (.invokestatic 175, 3) := by decide +kernel
theorem dX9_packBest_36 : decode cX9_packBest 36 = .ok (.iload_n 1, 1) := by decide +kernel
theorem dX9_packBest_37 : decode cX9_packBest 37 = .ok (.invokestatic 178, 3) := by decide +kernel
theorem dX9_packBest_40 : decode cX9_packBest 40 = .ok (.invokevirtual 372, 3) := by decide +kernel
theorem dX9_packBest_43 : decode cX9_packBest 43 = .ok (.iconst (-1), 1) := by decide +kernel
theorem dX9_packBest_44 : decode cX9_packBest 44 = .ok (.if_icmp .eq 7, 3) := by decide +kernel
theorem dX9_packBest_47 : decode cX9_packBest 47 = .ok (.iconst 1, 1) := by decide +kernel
theorem dX9_packBest_48 : decode cX9_packBest 48 = .ok (.goto 4, 3) := by decide +kernel
theorem dX9_packBest_51 : decode cX9_packBest 51 = .ok (.iconst 0, 1) := by decide +kernel
theorem dX9_packBest_52 : decode cX9_packBest 52 = .ok (.ireturn, 1) := by decide +kernel
theorem dX9_rowSign_0 : decode cX9_rowSign 0 = .ok (.iload_n 2, 1) := by decide +kernel
theorem dX9_rowSign_1 : decode cX9_rowSign 1 = .ok (.bipush 10, 2) := by decide +kernel
theorem dX9_rowSign_3 : decode cX9_rowSign 3 = .ok (.if_icmp .lt 9, 3) := by decide +kernel
theorem dX9_rowSign_6 : decode cX9_rowSign 6 = .ok (.iload_n 2, 1) := by decide +kernel
theorem dX9_rowSign_7 : decode cX9_rowSign 7 = .ok (.bipush 22, 2) := by decide +kernel
theorem dX9_rowSign_9 : decode cX9_rowSign 9 = .ok (.if_icmp .lt 6, 3) := by decide +kernel
theorem dX9_rowSign_12 : decode cX9_rowSign 12 = .ok (.bipush (-2), 2) := by decide +kernel
theorem dX9_rowSign_14 : decode cX9_rowSign 14 = .ok (.ireturn, 1) := by decide +kernel
theorem dX9_rowSign_15 : decode cX9_rowSign 15 = .ok (.aload_n 0, 1) := by decide +kernel
theorem dX9_rowSign_16 : decode cX9_rowSign 16 = .ok (.getfield 12, 3) := by decide +kernel
theorem dX9_rowSign_19 : decode cX9_rowSign 19 = .ok (.iload_n 1, 1) := by decide +kernel
theorem dX9_rowSign_20 : decode cX9_rowSign 20 = .ok (.invokevirtual 240, 3) := by decide +kernel
theorem dX9_rowSign_23 : decode cX9_rowSign 23 = .ok (.iload_n 2, 1) := by decide +kernel
theorem dX9_rowSign_24 : decode cX9_rowSign 24 = .ok (.bipush 10, 2) := by decide +kernel
theorem dX9_rowSign_26 : decode cX9_rowSign 26 = .ok (.isub, 1) := by decide +kernel
theorem dX9_rowSign_27 : decode cX9_rowSign 27 = .ok (.invokevirtual 237, 3) := by decide +kernel
theorem dX9_rowSign_30 : decode cX9_rowSign 30 = .ok (.ireturn, 1) := by decide +kernel
theorem dX9_hitsWithin_0 : decode cX9_hitsWithin 0 = .ok (.aload_n 0, 1) := by decide +kernel
theorem dX9_hitsWithin_1 : decode cX9_hitsWithin 1 = .ok (.getfield 75, 3) := by decide +kernel
theorem dX9_hitsWithin_4 : decode cX9_hitsWithin 4 = .ok (.invokevirtual 143, 3) := by decide +kernel
theorem dX9_hitsWithin_7 : decode cX9_hitsWithin 7 = .ok (.aload_n 0, 1) := by decide +kernel
theorem dX9_hitsWithin_8 : decode cX9_hitsWithin 8 = .ok (.getfield 75, 3) := by decide +kernel
theorem dX9_hitsWithin_11 : decode cX9_hitsWithin 11 = .ok (.iload_n 1, 1) := by decide +kernel
theorem dX9_hitsWithin_12 : decode cX9_hitsWithin 12 = .ok (.invokevirtual 211, 3) := by decide +kernel
theorem dX9_hitsWithin_15 : decode cX9_hitsWithin 15 = .ok (.aload_n 0, 1) := by decide +kernel
theorem dX9_hitsWithin_16 : decode cX9_hitsWithin 16 = .ok (.getfield 78, 3) := by decide +kernel
theorem dX9_hitsWithin_19 : decode cX9_hitsWithin 19 = .ok (.aload_n 0, 1) := by decide +kernel
theorem dX9_hitsWithin_20 : decode cX9_hitsWithin 20 = .ok (.getfield 75, 3) := by decide +kernel
theorem dX9_hitsWithin_23 : decode cX9_hitsWithin 23 = .ok (.aload_n 0, 1) := by decide +kernel
theorem dX9_hitsWithin_24 : decode cX9_hitsWithin 24 = .ok (.getfield 12, 3) := by decide +kernel
theorem dX9_hitsWithin_27 : decode cX9_hitsWithin 27 = .ok (.aload_n 0, 1) := by decide +kernel
theorem dX9_hitsWithin_28 : decode cX9_hitsWithin 28 = .ok (.getfield 60, 3) := by decide +kernel
theorem dX9_hitsWithin_31 : decode cX9_hitsWithin 31 = .ok (.invokevirtual 365, 3) := by decide +kernel
theorem dX9_hitsWithin_34 : decode cX9_hitsWithin 34 = .ok (.aload_n 0, 1) := by decide +kernel
theorem dX9_hitsWithin_35 : decode cX9_hitsWithin 35 = .ok (.getfield 78, 3) := by decide +kernel
theorem dX9_hitsWithin_38 : decode cX9_hitsWithin 38 = .ok (.aload_n 0, 1) := by decide +kernel
theorem dX9_hitsWithin_39 : decode cX9_hitsWithin 39 = .ok (.getfield 40, 3) := by decide +kernel
theorem dX9_hitsWithin_42 : decode cX9_hitsWithin 42 = .ok (.invokevirtual 147, 3) := by decide +kernel
theorem dX9_hitsWithin_45 : decode cX9_hitsWithin 45 = .ok (.ireturn, 1) := by decide +kernel
theorem dX9_greatestDepth_0 : decode cX9_greatestDepth 0 = .ok (.iconst 0, 1) := by decide +kernel
theorem dX9_greatestDepth_1 : decode cX9_greatestDepth 1 = .ok (.istore_n 1, 1) := by decide +kernel
theorem dX9_greatestDepth_2 : decode cX9_greatestDepth 2 = .ok (.iconst 0, 1) := by decide +kernel
theorem dX9_greatestDepth_3 : decode cX9_greatestDepth 3 = .ok (.istore_n 2, 1) := by decide +kernel
theorem dX9_greatestDepth_4 : decode cX9_greatestDepth 4 = .ok (.iload_n 2, 1) := by decide +kernel
theorem dX9_greatestDepth_5 : decode cX9_greatestDepth 5 = .ok (.aload_n 0, 1) := by decide +kernel
theorem dX9_greatestDepth_6 : decode cX9_greatestDepth 6 = .ok (.getfield 12, 3) := by decide +kernel
theorem dX9_greatestDepth_9 : decode cX9_greatestDepth 9 = .ok (.invokevirtual 135, 3) := by decide +kernel
theorem dX9_greatestDepth_12 : decode cX9_greatestDepth 12 = .ok (.invokevirtual 105, 3) := by decide +kernel
theorem dX9_greatestDepth_15 : decode cX9_greatestDepth 15 = .ok (.if_icmp .ge 32, 3) := by decide +kernel
theorem dX9_greatestDepth_18 : decode cX9_greatestDepth 18 = .ok (.iload_n 1, 1) := by decide +kernel
theorem dX9_greatestDepth_19 : decode cX9_greatestDepth 19 = .ok (.aload_n 0, 1) := by decide +kernel
theorem dX9_greatestDepth_20 : decode cX9_greatestDepth 20 = .ok (.getfield 60, 3) := by decide +kernel
theorem dX9_greatestDepth_23 : decode cX9_greatestDepth 23 = .ok (.aload_n 0, 1) := by decide +kernel
theorem dX9_greatestDepth_24 : decode cX9_greatestDepth 24 = .ok (.getfield 12, 3) := by decide +kernel
theorem dX9_greatestDepth_27 : decode cX9_greatestDepth 27 = .ok (.invokevirtual 135, 3) := by decide +kernel
theorem dX9_greatestDepth_30 : decode cX9_greatestDepth 30 = .ok (.iload_n 2, 1) := by decide +kernel
theorem dX9_greatestDepth_31 : decode cX9_greatestDepth 31 = .ok (.invokevirtual 237, 3) := by decide +kernel
theorem dX9_greatestDepth_34 : decode cX9_greatestDepth 34 = .ok (.invokevirtual 247, 3) := by decide +kernel
theorem dX9_greatestDepth_37 : decode cX9_greatestDepth 37 = .ok (.invokestatic 375, 3) := by decide +kernel
theorem dX9_greatestDepth_40 : decode cX9_greatestDepth 40 = .ok (.istore_n 1, 1) := by decide +kernel
theorem dX9_greatestDepth_41 : decode cX9_greatestDepth 41 = .ok (.iinc 2 1, 3) := by decide +kernel
theorem dX9_greatestDepth_44 : decode cX9_greatestDepth 44 = .ok (.goto (-40), 3) := by decide +kernel
theorem dX9_greatestDepth_47 : decode cX9_greatestDepth 47 = .ok (.iload_n 1, 1) := by decide +kernel
theorem dX9_greatestDepth_48 : decode cX9_greatestDepth 48 = .ok (.ireturn, 1) := by decide +kernel
theorem dX9_perLetter_0 : decode cX9_perLetter 0 = .ok (.aload_n 0, 1) := by decide +kernel
theorem dX9_perLetter_1 : decode cX9_perLetter 1 = .ok (.getfield 67, 3) := by decide +kernel
theorem dX9_perLetter_4 : decode cX9_perLetter 4 = .ok (.invokevirtual 207, 3) := by decide +kernel
theorem dX9_perLetter_7 : decode cX9_perLetter 7 = .ok (.ifCond .ne 7, 3) := by decide +kernel
theorem dX9_perLetter_10 : decode cX9_perLetter 10 = .ok (.fconst 0, 1) := by decide +kernel
theorem dX9_perLetter_11 : decode cX9_perLetter 11 = .ok (.goto 14, 3) := by decide +kernel
theorem dX9_perLetter_14 : decode cX9_perLetter 14 = .ok (.iload_n 1, 1) := by decide +kernel
theorem dX9_perLetter_15 : decode cX9_perLetter 15 = .ok (.i2f, 1) := by decide +kernel
theorem dX9_perLetter_16 : decode cX9_perLetter 16 = .ok (.aload_n 0, 1) := by decide +kernel
theorem dX9_perLetter_17 : decode cX9_perLetter 17 = .ok (.getfield 67, 3) := by decide +kernel
theorem dX9_perLetter_20 : decode cX9_perLetter 20 = .ok (.invokevirtual 207, 3) := by decide +kernel
theorem dX9_perLetter_23 : decode cX9_perLetter 23 = .ok (.i2f, 1) := by decide +kernel
theorem dX9_perLetter_24 : decode cX9_perLetter 24 = .ok (.fdiv, 1) := by decide +kernel
theorem dX9_perLetter_25 : decode cX9_perLetter 25 = .ok (.freturn, 1) := by decide +kernel
theorem dX9_foldedLengths_0 : decode cX9_foldedLengths 0 = .ok (.fconst 0, 1) := by decide +kernel
theorem dX9_foldedLengths_1 : decode cX9_foldedLengths 1 = .ok (.fstore_n 1, 1) := by decide +kernel
theorem dX9_foldedLengths_2 : decode cX9_foldedLengths 2 = .ok (.iconst 0, 1) := by decide +kernel
theorem dX9_foldedLengths_3 : decode cX9_foldedLengths 3 = .ok (.istore_n 2, 1) := by decide +kernel
theorem dX9_foldedLengths_4 : decode cX9_foldedLengths 4 = .ok (.iload_n 2, 1) := by decide +kernel
theorem dX9_foldedLengths_5 : decode cX9_foldedLengths 5 = .ok (.aload_n 0, 1) := by decide +kernel
theorem dX9_foldedLengths_6 : decode cX9_foldedLengths 6 = .ok (.getfield 12, 3) := by decide +kernel
theorem dX9_foldedLengths_9 : decode cX9_foldedLengths 9 = .ok (.invokevirtual 135, 3) := by decide +kernel
theorem dX9_foldedLengths_12 : decode cX9_foldedLengths 12 = .ok (.invokevirtual 105, 3) := by decide +kernel
theorem dX9_foldedLengths_15 : decode cX9_foldedLengths 15 = .ok (.if_icmp .ge 41, 3) := by decide +kernel
theorem dX9_foldedLengths_18 : decode cX9_foldedLengths 18 = .ok (.aload_n 0, 1) := by decide +kernel
theorem dX9_foldedLengths_19 : decode cX9_foldedLengths 19 = .ok (.getfield 60, 3) := by decide +kernel
theorem dX9_foldedLengths_22 : decode cX9_foldedLengths 22 = .ok (.aload_n 0, 1) := by decide +kernel
theorem dX9_foldedLengths_23 : decode cX9_foldedLengths 23 = .ok (.getfield 12, 3) := by decide +kernel
theorem dX9_foldedLengths_26 : decode cX9_foldedLengths 26 = .ok (.invokevirtual 135, 3) := by decide +kernel
theorem dX9_foldedLengths_29 : decode cX9_foldedLengths 29 = .ok (.iload_n 2, 1) := by decide +kernel
theorem dX9_foldedLengths_30 : decode cX9_foldedLengths 30 = .ok (.invokevirtual 237, 3) := by decide +kernel
theorem dX9_foldedLengths_33 : decode cX9_foldedLengths 33 = .ok (.invokevirtual 244, 3) := by decide +kernel
theorem dX9_foldedLengths_36 : decode cX9_foldedLengths 36 = .ok (.i2f, 1) := by decide +kernel
theorem dX9_foldedLengths_37 : decode cX9_foldedLengths 37 = .ok (.fstore_n 3, 1) := by decide +kernel
theorem dX9_foldedLengths_38 : decode cX9_foldedLengths 38 = .ok (.fload_n 1, 1) := by decide +kernel
theorem dX9_foldedLengths_39 : decode cX9_foldedLengths 39 = .ok (.ldc_w 380, 3) := by decide +kernel
theorem dX9_foldedLengths_42 : decode cX9_foldedLengths 42 = .ok (.fmul, 1) := by decide +kernel
theorem dX9_foldedLengths_43 : decode cX9_foldedLengths 43 = .ok (.fload_n 3, 1) := by decide +kernel
theorem dX9_foldedLengths_44 : decode cX9_foldedLengths 44 = .ok (.fadd, 1) := by decide +kernel
theorem dX9_foldedLengths_45 : decode cX9_foldedLengths 45 = .ok (.ldc_w 381, 3) := by decide +kernel
theorem dX9_foldedLengths_48 : decode cX9_foldedLengths 48 = .ok (.fmul, 1) := by decide +kernel
theorem dX9_foldedLengths_49 : decode cX9_foldedLengths 49 = .ok (.fstore_n 1, 1) := by decide +kernel
theorem dX9_foldedLengths_50 : decode cX9_foldedLengths 50 = .ok (.iinc 2 1, 3) := by decide +kernel
theorem dX9_foldedLengths_53 : decode cX9_foldedLengths 53 = .ok (.goto (-49), 3) := by decide +kernel
theorem dX9_foldedLengths_56 : decode cX9_foldedLengths 56 = .ok (.fload_n 1, 1) := by decide +kernel
theorem dX9_foldedLengths_57 : decode cX9_foldedLengths 57 = .ok (.freturn, 1) := by decide +kernel
theorem dX9_bitsOf_0 : decode cX9_bitsOf 0 = .ok (.fload_n 0, 1) := by decide +kernel
theorem dX9_bitsOf_1 : decode cX9_bitsOf 1 = .ok (.fconst 0, 1) := by decide +kernel
theorem dX9_bitsOf_2 : decode cX9_bitsOf 2 = .ok (.fcmp .g, 1) := by decide +kernel
theorem dX9_bitsOf_3 : decode cX9_bitsOf 3 = .ok (.ifCond .gt 5, 3) := by decide +kernel
theorem dX9_bitsOf_6 : decode cX9_bitsOf 6 = .ok (.iconst 0, 1) := by decide +kernel
theorem dX9_bitsOf_7 : decode cX9_bitsOf 7 = .ok (.ireturn, 1) := by decide +kernel
theorem dX9_bitsOf_8 : decode cX9_bitsOf 8 = .ok (.fload_n 0, 1) := by decide +kernel
theorem dX9_bitsOf_9 : decode cX9_bitsOf 9 = .ok (.fstore_n 1, 1) := by decide +kernel
theorem dX9_bitsOf_10 : decode cX9_bitsOf 10 = .ok (.bipush 127, 2) := by decide +kernel
theorem dX9_bitsOf_12 : decode cX9_bitsOf 12 = .ok (.istore_n 2, 1) := by decide +kernel
theorem dX9_bitsOf_13 : decode cX9_bitsOf 13 = .ok (.fload_n 1, 1) := by decide +kernel
theorem dX9_bitsOf_14 : decode cX9_bitsOf 14 = .ok (.fconst 2, 1) := by decide +kernel
theorem dX9_bitsOf_15 : decode cX9_bitsOf 15 = .ok (.fcmp .l, 1) := by decide +kernel
theorem dX9_bitsOf_16 : decode cX9_bitsOf 16 = .ok (.ifCond .lt 22, 3) := by decide +kernel
theorem dX9_bitsOf_19 : decode cX9_bitsOf 19 = .ok (.iload_n 2, 1) := by decide +kernel
theorem dX9_bitsOf_20 : decode cX9_bitsOf 20 = .ok (.sipush 254, 3) := by decide +kernel
theorem dX9_bitsOf_23 : decode cX9_bitsOf 23 = .ok (.if_icmp .ge 15, 3) := by decide +kernel
theorem dX9_bitsOf_26 : decode cX9_bitsOf 26 = .ok (.fload_n 1, 1) := by decide +kernel
theorem dX9_bitsOf_27 : decode cX9_bitsOf 27 = .ok (.ldc_w 380, 3) := by decide +kernel
theorem dX9_bitsOf_30 : decode cX9_bitsOf 30 = .ok (.fmul, 1) := by decide +kernel
theorem dX9_bitsOf_31 : decode cX9_bitsOf 31 = .ok (.fstore_n 1, 1) := by decide +kernel
theorem dX9_bitsOf_32 : decode cX9_bitsOf 32 = .ok (.iinc 2 1, 3) := by decide +kernel
theorem dX9_bitsOf_35 : decode cX9_bitsOf 35 = .ok (.goto (-22), 3) := by decide +kernel
theorem dX9_bitsOf_38 : decode cX9_bitsOf 38 = .ok (.fload_n 1, 1) := by decide +kernel
theorem dX9_bitsOf_39 : decode cX9_bitsOf 39 = .ok (.fconst 1, 1) := by decide +kernel
theorem dX9_bitsOf_40 : decode cX9_bitsOf 40 = .ok (.fcmp .g, 1) := by decide +kernel
theorem dX9_bitsOf_41 : decode cX9_bitsOf 41 = .ok (.ifCond .ge 18, 3) := by decide +kernel
theorem dX9_bitsOf_44 : decode cX9_bitsOf 44 = .ok (.iload_n 2, 1) := by decide +kernel
theorem dX9_bitsOf_45 : decode cX9_bitsOf 45 = .ok (.iconst 1, 1) := by decide +kernel
theorem dX9_bitsOf_46 : decode cX9_bitsOf 46 = .ok (.if_icmp .le 13, 3) := by decide +kernel
theorem dX9_bitsOf_49 : decode cX9_bitsOf 49 = .ok (.fload_n 1, 1) := by decide +kernel
theorem dX9_bitsOf_50 : decode cX9_bitsOf 50 = .ok (.fconst 2, 1) := by decide +kernel
theorem dX9_bitsOf_51 : decode cX9_bitsOf 51 = .ok (.fmul, 1) := by decide +kernel
theorem dX9_bitsOf_52 : decode cX9_bitsOf 52 = .ok (.fstore_n 1, 1) := by decide +kernel
theorem dX9_bitsOf_53 : decode cX9_bitsOf 53 = .ok (.iinc 2 (-1), 3) := by decide +kernel
theorem dX9_bitsOf_56 : decode cX9_bitsOf 56 = .ok (.goto (-18), 3) := by decide +kernel
theorem dX9_bitsOf_59 : decode cX9_bitsOf 59 = .ok (.iload_n 2, 1) := by decide +kernel
theorem dX9_bitsOf_60 : decode cX9_bitsOf 60 = .ok (.bipush 23, 2) := by decide +kernel
theorem dX9_bitsOf_62 : decode cX9_bitsOf 62 = .ok (.ishl, 1) := by decide +kernel
theorem dX9_bitsOf_63 : decode cX9_bitsOf 63 = .ok (.fload_n 1, 1) := by decide +kernel
theorem dX9_bitsOf_64 : decode cX9_bitsOf 64 = .ok (.fconst 1, 1) := by decide +kernel
theorem dX9_bitsOf_65 : decode cX9_bitsOf 65 = .ok (.fsub, 1) := by decide +kernel
theorem dX9_bitsOf_66 : decode cX9_bitsOf 66 = .ok (.ldc_w 382, 3) := by decide +kernel
theorem dX9_bitsOf_69 : decode cX9_bitsOf 69 = .ok (.fmul, 1) := by decide +kernel
theorem dX9_bitsOf_70 : decode cX9_bitsOf 70 = .ok (.f2i, 1) := by decide +kernel
theorem dX9_bitsOf_71 : decode cX9_bitsOf 71 = .ok (.iadd, 1) := by decide +kernel
theorem dX9_bitsOf_72 : decode cX9_bitsOf 72 = .ok (.ireturn, 1) := by decide +kernel
theorem dX9_writeForm_0 : decode cX9_writeForm 0 = .ok (.aload_n 0, 1) := by decide +kernel
theorem dX9_writeForm_1 : decode cX9_writeForm 1 = .ok (.invokevirtual 144, 3) := by decide +kernel
theorem dX9_writeForm_4 : decode cX9_writeForm 4 = .ok (.aload_n 0, 1) := by decide +kernel
theorem dX9_writeForm_5 : decode cX9_writeForm 5 = .ok (.getfield 102, 3) := by decide +kernel
theorem dX9_writeForm_8 : decode cX9_writeForm 8 = .ok (.invokevirtual 143, 3) := by decide +kernel
theorem dX9_writeForm_11 : decode cX9_writeForm 11 = .ok (.aload_n 0, 1) := by decide +kernel
theorem dX9_writeForm_12 : decode cX9_writeForm 12 = .ok (.getfield 102, 3) := by decide +kernel
theorem dX9_writeForm_15 : decode cX9_writeForm 15 = .ok (.aload_n 0, 1) := by decide +kernel
theorem dX9_writeForm_16 : decode cX9_writeForm 16 = .ok (.getfield 60, 3) := by decide +kernel
theorem dX9_writeForm_19 : decode cX9_writeForm 19 = .ok (.invokevirtual 383, 3) := by decide +kernel
theorem dX9_writeForm_22 : decode cX9_writeForm 22 = .ok (.invokevirtual 211, 3) := by decide +kernel
theorem dX9_writeForm_25 : decode cX9_writeForm 25 = .ok (.iconst 0, 1) := by decide +kernel
theorem dX9_writeForm_26 : decode cX9_writeForm 26 = .ok (.istore_n 1, 1) := by decide +kernel
theorem dX9_writeForm_27 : decode cX9_writeForm 27 = .ok (.iload_n 1, 1) := by decide +kernel
theorem dX9_writeForm_28 : decode cX9_writeForm 28 = .ok (.aload_n 0, 1) := by decide +kernel
theorem dX9_writeForm_29 : decode cX9_writeForm 29 = .ok (.getfield 60, 3) := by decide +kernel
theorem dX9_writeForm_32 : decode cX9_writeForm 32 = .ok (.invokevirtual 383, 3) := by decide +kernel
theorem dX9_writeForm_35 : decode cX9_writeForm 35 = .ok (.if_icmp .ge 38, 3) := by decide +kernel
theorem dX9_writeForm_38 : decode cX9_writeForm 38 = .ok (.aload_n 0, 1) := by decide +kernel
theorem dX9_writeForm_39 : decode cX9_writeForm 39 = .ok (.getfield 60, 3) := by decide +kernel
theorem dX9_writeForm_42 : decode cX9_writeForm 42 = .ok (.iload_n 1, 1) := by decide +kernel
theorem dX9_writeForm_43 : decode cX9_writeForm 43 = .ok (.invokevirtual 386, 3) := by decide +kernel
theorem dX9_writeForm_46 : decode cX9_writeForm 46 = .ok (.istore_n 2, 1) := by decide +kernel
theorem dX9_writeForm_47 : decode cX9_writeForm 47 = .ok (.aload_n 0, 1) := by decide +kernel
theorem dX9_writeForm_48 : decode cX9_writeForm 48 = .ok (.getfield 102, 3) := by decide +kernel
theorem dX9_writeForm_51 : decode cX9_writeForm 51 = .ok (.iload_n 2, 1) := by decide +kernel
theorem dX9_writeForm_52 : decode cX9_writeForm 52 = .ok (.invokevirtual 211, 3) := by decide +kernel
theorem dX9_writeForm_55 : decode cX9_writeForm 55 = .ok (.aload_n 0, 1) := by decide +kernel
theorem dX9_writeForm_56 : decode cX9_writeForm 56 = .ok (.aload_n 0, 1) := by decide +kernel
theorem dX9_writeForm_57 : decode cX9_writeForm 57 = .ok (.getfield 12, 3) := by decide +kernel
theorem dX9_writeForm_60 : decode cX9_writeForm 60 = .ok (.iload_n 2, 1) := by decide +kernel
theorem dX9_writeForm_61 : decode cX9_writeForm 61 = .ok (.invokevirtual 240, 3) := by decide +kernel
theorem dX9_writeForm_64 : decode cX9_writeForm 64 = .ok (.invokevirtual 389, 3) := by decide +kernel
theorem dX9_writeForm_67 : decode cX9_writeForm 67 = .ok (.iinc 1 1, 3) := by decide +kernel
theorem dX9_writeForm_70 : decode cX9_writeForm 70 = .ok (.goto (-43), 3) := by decide +kernel
theorem dX9_writeForm_73 : decode cX9_writeForm 73 = .ok (.aload_n 0, 1) := by decide +kernel
theorem dX9_writeForm_74 : decode cX9_writeForm 74 = .ok (.aload_n 0, 1) := by decide +kernel
theorem dX9_writeForm_75 : decode cX9_writeForm 75 = .ok (.getfield 12, 3) := by decide +kernel
theorem dX9_writeForm_78 : decode cX9_writeForm 78 = .ok (.invokevirtual 135, 3) := by decide +kernel
theorem dX9_writeForm_81 : decode cX9_writeForm 81 = .ok (.invokevirtual 389, 3) := by decide +kernel
theorem dX9_writeForm_84 : decode cX9_writeForm 84 = .ok (.return_, 1) := by decide +kernel
theorem dX9_writeRow_0 : decode cX9_writeRow 0 = .ok (.aload_n 0, 1) := by decide +kernel
theorem dX9_writeRow_1 : decode cX9_writeRow 1 = .ok (.getfield 102, 3) := by decide +kernel
theorem dX9_writeRow_4 : decode cX9_writeRow 4 = .ok (.aload_n 1, 1) := by decide +kernel
theorem dX9_writeRow_5 : decode cX9_writeRow 5 = .ok (.invokevirtual 105, 3) := by decide +kernel
theorem dX9_writeRow_8 : decode cX9_writeRow 8 = .ok (.invokevirtual 211, 3) := by decide +kernel
theorem dX9_writeRow_11 : decode cX9_writeRow 11 = .ok (.iconst 0, 1) := by decide +kernel
theorem dX9_writeRow_12 : decode cX9_writeRow 12 = .ok (.istore_n 2, 1) := by decide +kernel
theorem dX9_writeRow_13 : decode cX9_writeRow 13 = .ok (.iload_n 2, 1) := by decide +kernel
theorem dX9_writeRow_14 : decode cX9_writeRow 14 = .ok (.aload_n 1, 1) := by decide +kernel
theorem dX9_writeRow_15 : decode cX9_writeRow 15 = .ok (.invokevirtual 105, 3) := by decide +kernel
theorem dX9_writeRow_18 : decode cX9_writeRow 18 = .ok (.if_icmp .ge 21, 3) := by decide +kernel
theorem dX9_writeRow_21 : decode cX9_writeRow 21 = .ok (.aload_n 0, 1) := by decide +kernel
theorem dX9_writeRow_22 : decode cX9_writeRow 22 = .ok (.getfield 102, 3) := by decide +kernel
theorem dX9_writeRow_25 : decode cX9_writeRow 25 = .ok (.aload_n 1, 1) := by decide +kernel
theorem dX9_writeRow_26 : decode cX9_writeRow 26 = .ok (.iload_n 2, 1) := by decide +kernel
theorem dX9_writeRow_27 : decode cX9_writeRow 27 = .ok (.invokevirtual 237, 3) := by decide +kernel
theorem dX9_writeRow_30 : decode cX9_writeRow 30 = .ok (.invokevirtual 211, 3) := by decide +kernel
theorem dX9_writeRow_33 : decode cX9_writeRow 33 = .ok (.iinc 2 1, 3) := by decide +kernel
theorem dX9_writeRow_36 : decode cX9_writeRow 36 = .ok (.goto (-23), 3) := by decide +kernel
theorem dX9_writeRow_39 : decode cX9_writeRow 39 = .ok (.return_, 1) := by decide +kernel
theorem dX10_isIn_0 : decode cX10_isIn 0 = .ok (.lload_n 0, 1) := by decide +kernel
theorem dX10_isIn_1 : decode cX10_isIn 1 = .ok (.lload_n 2, 1) := by decide +kernel
theorem dX10_isIn_2 : decode cX10_isIn 2 = .ok (.lcmp, 1) := by decide +kernel
theorem dX10_isIn_3 : decode cX10_isIn 3 = .ok (.ifCond .lt 14, 3) := by decide +kernel
theorem dX10_isIn_6 : decode cX10_isIn 6 = .ok (.lload_n 0, 1) := by decide +kernel
theorem dX10_isIn_7 : decode cX10_isIn 7 = .ok (.lload 4, 2) := by decide +kernel
theorem dX10_isIn_9 : decode cX10_isIn 9 = .ok (.lcmp, 1) := by decide +kernel
theorem dX10_isIn_10 : decode cX10_isIn 10 = .ok (.ifCond .gt 7, 3) := by decide +kernel
theorem dX10_isIn_13 : decode cX10_isIn 13 = .ok (.iconst 1, 1) := by decide +kernel
theorem dX10_isIn_14 : decode cX10_isIn 14 = .ok (.goto 4, 3) := by decide +kernel
theorem dX10_isIn_17 : decode cX10_isIn 17 = .ok (.iconst 0, 1) := by decide +kernel
theorem dX10_isIn_18 : decode cX10_isIn 18 = .ok (.ireturn, 1) := by decide +kernel
theorem dX10_greater_0 : decode cX10_greater 0 = .ok (.iload_n 0, 1) := by decide +kernel
theorem dX10_greater_1 : decode cX10_greater 1 = .ok (.iload_n 1, 1) := by decide +kernel
theorem dX10_greater_2 : decode cX10_greater 2 = .ok (.if_icmp .le 7, 3) := by decide +kernel
theorem dX10_greater_5 : decode cX10_greater 5 = .ok (.iload_n 0, 1) := by decide +kernel
theorem dX10_greater_6 : decode cX10_greater 6 = .ok (.goto 4, 3) := by decide +kernel
theorem dX10_greater_9 : decode cX10_greater 9 = .ok (.iload_n 1, 1) := by decide +kernel
theorem dX10_greater_10 : decode cX10_greater 10 = .ok (.ireturn, 1) := by decide +kernel
theorem dX10_lesser_0 : decode cX10_lesser 0 = .ok (.iload_n 0, 1) := by decide +kernel
theorem dX10_lesser_1 : decode cX10_lesser 1 = .ok (.iload_n 1, 1) := by decide +kernel
theorem dX10_lesser_2 : decode cX10_lesser 2 = .ok (.if_icmp .ge 7, 3) := by decide +kernel
theorem dX10_lesser_5 : decode cX10_lesser 5 = .ok (.iload_n 0, 1) := by decide +kernel
theorem dX10_lesser_6 : decode cX10_lesser 6 = .ok (.goto 4, 3) := by decide +kernel
theorem dX10_lesser_9 : decode cX10_lesser 9 = .ok (.iload_n 1, 1) := by decide +kernel
theorem dX10_lesser_10 : decode cX10_lesser 10 = .ok (.ireturn, 1) := by decide +kernel
theorem dX10_init_0 : decode cX10_init 0 = .ok (.aload_n 0, 1) := by decide +kernel
theorem dX10_init_1 : decode cX10_init 1 = .ok (.invokespecial 7, 3) := by decide +kernel
theorem dX10_init_4 : decode cX10_init 4 = .ok (.aload_n 0, 1) := by decide +kernel
theorem dX10_init_5 : decode cX10_init 5 = .ok (.sipush 3063, 3) := by decide +kernel
theorem dX10_init_8 : decode cX10_init 8 = .ok (.newarray .int, 2) := by decide +kernel
theorem dX10_init_10 : decode cX10_init 10 = .ok (.putfield 13, 3) := by decide +kernel
theorem dX10_init_13 : decode cX10_init 13 = .ok (.aload_n 0, 1) := by decide +kernel
theorem dX10_init_14 : decode cX10_init 14 = .ok (.sipush 10210, 3) := by decide +kernel
theorem dX10_init_17 : decode cX10_init 17 = .ok (.newarray .int, 2) := by decide +kernel
theorem dX10_init_19 : decode cX10_init 19 = .ok (.putfield 17, 3) := by decide +kernel
theorem dX10_init_22 : decode cX10_init 22 = .ok (.aload_n 0, 1) := by decide +kernel
theorem dX10_init_23 : decode cX10_init 23 = .ok (.sipush 1021, 3) := by decide +kernel
theorem dX10_init_26 : decode cX10_init 26 = .ok (.newarray .int, 2) := by decide +kernel
theorem dX10_init_28 : decode cX10_init 28 = .ok (.putfield 20, 3) := by decide +kernel
theorem dX10_init_31 : decode cX10_init 31 = .ok (.aload_n 0, 1) := by decide +kernel
theorem dX10_init_32 : decode cX10_init 32 = .ok (.sipush 3063, 3) := by decide +kernel
theorem dX10_init_35 : decode cX10_init 35 = .ok (.newarray .int, 2) := by decide +kernel
theorem dX10_init_37 : decode cX10_init 37 = .ok (.putfield 23, 3) := by decide +kernel
theorem dX10_init_40 : decode cX10_init 40 = .ok (.aload_n 0, 1) := by decide +kernel
theorem dX10_init_41 : decode cX10_init 41 = .ok (.iconst 2, 1) := by decide +kernel
theorem dX10_init_42 : decode cX10_init 42 = .ok (.newarray .boolean, 2) := by decide +kernel
theorem dX10_init_44 : decode cX10_init 44 = .ok (.putfield 26, 3) := by decide +kernel
theorem dX10_init_47 : decode cX10_init 47 = .ok (.aload_n 0, 1) := by decide +kernel
theorem dX10_init_48 : decode cX10_init 48 = .ok (.bipush 86, 2) := by decide +kernel
theorem dX10_init_50 : decode cX10_init 50 = .ok (.newarray .int, 2) := by decide +kernel
theorem dX10_init_52 : decode cX10_init 52 = .ok (.putfield 30, 3) := by decide +kernel
theorem dX10_init_55 : decode cX10_init 55 = .ok (.aload_n 0, 1) := by decide +kernel
theorem dX10_init_56 : decode cX10_init 56 = .ok (.bipush 86, 2) := by decide +kernel
theorem dX10_init_58 : decode cX10_init 58 = .ok (.newarray .int, 2) := by decide +kernel
theorem dX10_init_60 : decode cX10_init 60 = .ok (.putfield 33, 3) := by decide +kernel
theorem dX10_init_63 : decode cX10_init 63 = .ok (.aload_n 0, 1) := by decide +kernel
theorem dX10_init_64 : decode cX10_init 64 = .ok (.sipush 240, 3) := by decide +kernel
theorem dX10_init_67 : decode cX10_init 67 = .ok (.newarray .int, 2) := by decide +kernel
theorem dX10_init_69 : decode cX10_init 69 = .ok (.putfield 36, 3) := by decide +kernel
theorem dX10_init_72 : decode cX10_init 72 = .ok (.aload_n 0, 1) := by decide +kernel
theorem dX10_init_73 : decode cX10_init 73 = .ok (.sipush 240, 3) := by decide +kernel
theorem dX10_init_76 : decode cX10_init 76 = .ok (.newarray .int, 2) := by decide +kernel
theorem dX10_init_78 : decode cX10_init 78 = .ok (.putfield 39, 3) := by decide +kernel
theorem dX10_init_81 : decode cX10_init 81 = .ok (.aload_n 0, 1) := by decide +kernel
theorem dX10_init_82 : decode cX10_init 82 = .ok (.sipush 260, 3) := by decide +kernel
theorem dX10_init_85 : decode cX10_init 85 = .ok (.newarray .byte, 2) := by decide +kernel
theorem dX10_init_87 : decode cX10_init 87 = .ok (.putfield 42, 3) := by decide +kernel
theorem dX10_init_90 : decode cX10_init 90 = .ok (.aload_n 0, 1) := by decide +kernel
theorem dX10_init_91 : decode cX10_init 91 = .ok (.iconst (-1), 1) := by decide +kernel
theorem dX10_init_92 : decode cX10_init 92 = .ok (.putfield 46, 3) := by decide +kernel
theorem dX10_init_95 : decode cX10_init 95 = .ok (.aload_n 0, 1) := by decide +kernel
theorem dX10_init_96 : decode cX10_init 96 = .ok (.bipush 20, 2) := by decide +kernel
theorem dX10_init_98 : decode cX10_init 98 = .ok (.newarray .int, 2) := by decide +kernel
theorem dX10_init_100 : decode cX10_init 100 = .ok (.putfield 49, 3) := by decide +kernel
theorem dX10_init_103 : decode cX10_init 103 = .ok (.aload_n 0, 1) := by decide +kernel
theorem dX10_init_104 : decode cX10_init 104 = .ok (.sipush 1021, 3) := by decide +kernel
theorem dX10_init_107 : decode cX10_init 107 = .ok (.newarray .int, 2) := by decide +kernel
theorem dX10_init_109 : decode cX10_init 109 = .ok (.putfield 52, 3) := by decide +kernel
theorem dX10_init_112 : decode cX10_init 112 = .ok (.aload_n 0, 1) := by decide +kernel
theorem dX10_init_113 : decode cX10_init 113 = .ok (.sipush 1090, 3) := by decide +kernel
theorem dX10_init_116 : decode cX10_init 116 = .ok (.newarray .int, 2) := by decide +kernel
theorem dX10_init_118 : decode cX10_init 118 = .ok (.putfield 55, 3) := by decide +kernel
theorem dX10_init_121 : decode cX10_init 121 = .ok (.aload_n 0, 1) := by decide +kernel
theorem dX10_init_122 : decode cX10_init 122 = .ok (.bipush 86, 2) := by decide +kernel
theorem dX10_init_124 : decode cX10_init 124 = .ok (.newarray .boolean, 2) := by decide +kernel
theorem dX10_init_126 : decode cX10_init 126 = .ok (.putfield 58, 3) := by decide +kernel
theorem dX10_init_129 : decode cX10_init 129 = .ok (.aload_n 0, 1) := by decide +kernel
theorem dX10_init_130 : decode cX10_init 130 = .ok (.bipush 86, 2) := by decide +kernel
theorem dX10_init_132 : decode cX10_init 132 = .ok (.newarray .int, 2) := by decide +kernel
theorem dX10_init_134 : decode cX10_init 134 = .ok (.putfield 61, 3) := by decide +kernel
theorem dX10_init_137 : decode cX10_init 137 = .ok (.aload_n 0, 1) := by decide +kernel
theorem dX10_init_138 : decode cX10_init 138 = .ok (.bipush 86, 2) := by decide +kernel
theorem dX10_init_140 : decode cX10_init 140 = .ok (.newarray .int, 2) := by decide +kernel
theorem dX10_init_142 : decode cX10_init 142 = .ok (.putfield 64, 3) := by decide +kernel
theorem dX10_init_145 : decode cX10_init 145 = .ok (.aload_n 0, 1) := by decide +kernel
theorem dX10_init_146 : decode cX10_init 146 = .ok (.bipush 86, 2) := by decide +kernel
theorem dX10_init_148 : decode cX10_init 148 = .ok (.newarray .int, 2) := by decide +kernel
theorem dX10_init_150 : decode cX10_init 150 = .ok (.putfield 67, 3) := by decide +kernel
theorem dX10_init_153 : decode cX10_init 153 = .ok (.aload_n 0, 1) := by decide +kernel
theorem dX10_init_154 : decode cX10_init 154 = .ok (.bipush 86, 2) := by decide +kernel
theorem dX10_init_156 : decode cX10_init 156 = .ok (.newarray .int, 2) := by decide +kernel
theorem dX10_init_158 : decode cX10_init 158 = .ok (.putfield 70, 3) := by decide +kernel
theorem dX10_init_161 : decode cX10_init 161 = .ok (.aload_n 0, 1) := by decide +kernel
theorem dX10_init_162 : decode cX10_init 162 = .ok (.bipush 86, 2) := by decide +kernel
theorem dX10_init_164 : decode cX10_init 164 = .ok (.newarray .int, 2) := by decide +kernel
theorem dX10_init_166 : decode cX10_init 166 = .ok (.putfield 73, 3) := by decide +kernel
theorem dX10_init_169 : decode cX10_init 169 = .ok (.aload_n 0, 1) := by decide +kernel
theorem dX10_init_170 : decode cX10_init 170 = .ok (.sipush 7396, 3) := by decide +kernel
theorem dX10_init_173 : decode cX10_init 173 = .ok (.newarray .int, 2) := by decide +kernel
theorem dX10_init_175 : decode cX10_init 175 = .ok (.putfield 76, 3) := by decide +kernel
theorem dX10_init_178 : decode cX10_init 178 = .ok (.aload_n 0, 1) := by decide +kernel
theorem dX10_init_179 : decode cX10_init 179 = .ok (.sipush 7396, 3) := by decide +kernel
theorem dX10_init_182 : decode cX10_init 182 = .ok (.newarray .int, 2) := by decide +kernel
theorem dX10_init_184 : decode cX10_init 184 = .ok (.putfield 79, 3) := by decide +kernel
theorem dX10_init_187 : decode cX10_init 187 = .ok (.aload_n 0, 1) := by decide +kernel
theorem dX10_init_188 : decode cX10_init 188 = .ok (.sipush 240, 3) := by decide +kernel
theorem dX10_init_191 : decode cX10_init 191 = .ok (.newarray .int, 2) := by decide +kernel
theorem dX10_init_193 : decode cX10_init 193 = .ok (.putfield 82, 3) := by decide +kernel
theorem dX10_init_196 : decode cX10_init 196 = .ok (.return_, 1) := by decide +kernel
theorem dX10_copies_0 : decode cX10_copies 0 = .ok (.iconst 0, 1) := by decide +kernel
theorem dX10_copies_1 : decode cX10_copies 1 = .ok (.istore 5, 2) := by decide +kernel
theorem dX10_copies_3 : decode cX10_copies 3 = .ok (.iload 5, 2) := by decide +kernel
theorem dX10_copies_5 : decode cX10_copies 5 = .ok (.iload 4, 2) := by decide +kernel
theorem dX10_copies_7 : decode cX10_copies 7 = .ok (.if_icmp .ge 21, 3) := by decide +kernel
theorem dX10_copies_10 : decode cX10_copies 10 = .ok (.aload_n 2, 1) := by decide +kernel
theorem dX10_copies_11 : decode cX10_copies 11 = .ok (.iload_n 3, 1) := by decide +kernel
theorem dX10_copies_12 : decode cX10_copies 12 = .ok (.iload 5, 2) := by decide +kernel
theorem dX10_copies_14 : decode cX10_copies 14 = .ok (.iadd, 1) := by decide +kernel
theorem dX10_copies_15 : decode cX10_copies 15 = .ok (.aload_n 0, 1) := by decide +kernel
theorem dX10_copies_16 : decode cX10_copies 16 = .ok (.iload_n 1, 1) := by decide +kernel
theorem dX10_copies_17 : decode cX10_copies 17 = .ok (.iload 5, 2) := by decide +kernel
theorem dX10_copies_19 : decode cX10_copies 19 = .ok (.iadd, 1) := by decide +kernel
theorem dX10_copies_20 : decode cX10_copies 20 = .ok (.iaload, 1) := by decide +kernel
theorem dX10_copies_21 : decode cX10_copies 21 = .ok (.iastore, 1) := by decide +kernel
theorem dX10_copies_22 : decode cX10_copies 22 = .ok (.iinc 5 1, 3) := by decide +kernel
theorem dX10_copies_25 : decode cX10_copies 25 = .ok (.goto (-22), 3) := by decide +kernel
theorem dX10_copies_28 : decode cX10_copies 28 = .ok (.return_, 1) := by decide +kernel
theorem dX10_notes_0 : decode cX10_notes 0 = .ok (.aload_n 0, 1) := by decide +kernel
theorem dX10_notes_1 : decode cX10_notes 1 = .ok (.getfield 85, 3) := by decide +kernel
theorem dX10_notes_4 : decode cX10_notes 4 = .ok (.bipush 10, 2) := by decide +kernel
theorem dX10_notes_6 : decode cX10_notes 6 = .ok (.if_icmp .ne 31, 3) := by decide +kernel
theorem dX10_notes_9 : decode cX10_notes 9 = .ok (.aload_n 0, 1) := by decide +kernel
theorem dX10_notes_10 : decode cX10_notes 10 = .ok (.getfield 17, 3) := by decide +kernel
theorem dX10_notes_13 : decode cX10_notes 13 = .ok (.sipush 1021, 3) := by decide +kernel
theorem dX10_notes_16 : decode cX10_notes 16 = .ok (.aload_n 0, 1) := by decide +kernel
theorem dX10_notes_17 : decode cX10_notes 17 = .ok (.getfield 17, 3) := by decide +kernel
theorem dX10_notes_20 : decode cX10_notes 20 = .ok (.iconst 0, 1) := by decide +kernel
theorem dX10_notes_21 : decode cX10_notes 21 = .ok (.sipush 9189, 3) := by decide +kernel
theorem dX10_notes_24 : decode cX10_notes 24 = .ok (.invokestatic 88, 3) := by decide +kernel
theorem dX10_notes_27 : decode cX10_notes 27 = .ok (.aload_n 0, 1) := by decide +kernel
theorem dX10_notes_28 : decode cX10_notes 28 = .ok (.dup, 1) := by decide +kernel
theorem dX10_notes_29 : decode cX10_notes 29 = .ok (.getfield 85, 3) := by decide +kernel
theorem dX10_notes_32 : decode cX10_notes 32 = .ok (.iconst 1, 1) := by decide +kernel
theorem dX10_notes_33 : decode cX10_notes 33 = .ok (.isub, 1) := by decide +kernel
theorem dX10_notes_34 : decode cX10_notes 34 = .ok (.putfield 85, 3) := by decide +kernel
theorem dX10_notes_37 : decode cX10_notes 37 = .ok (.aload_n 0, 1) := by decide +kernel
theorem dX10_notes_38 : decode cX10_notes 38 = .ok (.getfield 13, 3) := by decide +kernel
theorem dX10_notes_41 : decode cX10_notes 41 = .ok (.iconst 0, 1) := by decide +kernel
theorem dX10_notes_42 : decode cX10_notes 42 = .ok (.aload_n 0, 1) := by decide +kernel
theorem dX10_notes_43 : decode cX10_notes 43 = .ok (.getfield 17, 3) := by decide +kernel
theorem dX10_notes_46 : decode cX10_notes 46 = .ok (.sipush 1021, 3) := by decide +kernel
theorem dX10_notes_49 : decode cX10_notes 49 = .ok (.aload_n 0, 1) := by decide +kernel
theorem dX10_notes_50 : decode cX10_notes 50 = .ok (.getfield 85, 3) := by decide +kernel
theorem dX10_notes_53 : decode cX10_notes 53 = .ok (.imul, 1) := by decide +kernel
theorem dX10_notes_54 : decode cX10_notes 54 = .ok (.sipush 1021, 3) := by decide +kernel
theorem dX10_notes_57 : decode cX10_notes 57 = .ok (.invokestatic 88, 3) := by decide +kernel
theorem dX10_notes_60 : decode cX10_notes 60 = .ok (.aload_n 0, 1) := by decide +kernel
theorem dX10_notes_61 : decode cX10_notes 61 = .ok (.dup, 1) := by decide +kernel
theorem dX10_notes_62 : decode cX10_notes 62 = .ok (.getfield 85, 3) := by decide +kernel
