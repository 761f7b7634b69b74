theorem dX10_notes_65 : decode k_X10_notes.2.1 65 = .ok (.iconst 1, 1) := by decide +kernel
theorem dX10_notes_66 : decode k_X10_notes.2.1 66 = .ok (.iadd, 1) := by decide +kernel
theorem dX10_notes_67 : decode k_X10_notes.2.1 67 = .ok (.putfield 85, 3) := by decide +kernel
theorem dX10_notes_70 : decode k_X10_notes.2.1 70 = .ok (.return_, 1) := by decide +kernel
theorem dX10_rowAt_0 : decode k_X10_rowAt.2.1 0 = .ok (.sipush 241, 3) := by decide +kernel
theorem dX10_rowAt_3 : decode k_X10_rowAt.2.1 3 = .ok (.bipush 13, 2) := by decide +kernel
theorem dX10_rowAt_5 : decode k_X10_rowAt.2.1 5 = .ok (.iload_n 0, 1) := by decide +kernel
theorem dX10_rowAt_6 : decode k_X10_rowAt.2.1 6 = .ok (.bipush 26, 2) := by decide +kernel
theorem dX10_rowAt_8 : decode k_X10_rowAt.2.1 8 = .ok (.isub, 1) := by decide +kernel
theorem dX10_rowAt_9 : decode k_X10_rowAt.2.1 9 = .ok (.imul, 1) := by decide +kernel
theorem dX10_rowAt_10 : decode k_X10_rowAt.2.1 10 = .ok (.iadd, 1) := by decide +kernel
theorem dX10_rowAt_11 : decode k_X10_rowAt.2.1 11 = .ok (.ireturn, 1) := by decide +kernel
theorem dX10_rowLong_0 : decode k_X10_rowLong.2.1 0 = .ok (.iload_n 1, 1) := by decide +kernel
theorem dX10_rowLong_1 : decode k_X10_rowLong.2.1 1 = .ok (.bipush 26, 2) := by decide +kernel
theorem dX10_rowLong_3 : decode k_X10_rowLong.2.1 3 = .ok (.if_icmp .ge 7, 3) := by decide +kernel
theorem dX10_rowLong_6 : decode k_X10_rowLong.2.1 6 = .ok (.iconst 0, 1) := by decide +kernel
theorem dX10_rowLong_7 : decode k_X10_rowLong.2.1 7 = .ok (.goto 12, 3) := by decide +kernel
theorem dX10_rowLong_10 : decode k_X10_rowLong.2.1 10 = .ok (.aload_n 0, 1) := by decide +kernel
theorem dX10_rowLong_11 : decode k_X10_rowLong.2.1 11 = .ok (.getfield 13, 3) := by decide +kernel
theorem dX10_rowLong_14 : decode k_X10_rowLong.2.1 14 = .ok (.iload_n 1, 1) := by decide +kernel
theorem dX10_rowLong_15 : decode k_X10_rowLong.2.1 15 = .ok (.invokestatic 92, 3) := by decide +kernel
theorem dX10_rowLong_18 : decode k_X10_rowLong.2.1 18 = .ok (.iaload, 1) := by decide +kernel
theorem dX10_rowLong_19 : decode k_X10_rowLong.2.1 19 = .ok (.ireturn, 1) := by decide +kernel
theorem dX10_inRow_0 : decode k_X10_inRow.2.1 0 = .ok (.aload_n 0, 1) := by decide +kernel
theorem dX10_inRow_1 : decode k_X10_inRow.2.1 1 = .ok (.getfield 13, 3) := by decide +kernel
theorem dX10_inRow_4 : decode k_X10_inRow.2.1 4 = .ok (.iload_n 1, 1) := by decide +kernel
theorem dX10_inRow_5 : decode k_X10_inRow.2.1 5 = .ok (.invokestatic 92, 3) := by decide +kernel
theorem dX10_inRow_8 : decode k_X10_inRow.2.1 8 = .ok (.iconst 1, 1) := by decide +kernel
theorem dX10_inRow_9 : decode k_X10_inRow.2.1 9 = .ok (.iadd, 1) := by decide +kernel
theorem dX10_inRow_10 : decode k_X10_inRow.2.1 10 = .ok (.iload_n 2, 1) := by decide +kernel
theorem dX10_inRow_11 : decode k_X10_inRow.2.1 11 = .ok (.iadd, 1) := by decide +kernel
theorem dX10_inRow_12 : decode k_X10_inRow.2.1 12 = .ok (.iaload, 1) := by decide +kernel
theorem dX10_inRow_13 : decode k_X10_inRow.2.1 13 = .ok (.ireturn, 1) := by decide +kernel
theorem dX10_isSign_0 : decode k_X10_isSign.2.1 0 = .ok (.iload_n 1, 1) := by decide +kernel
theorem dX10_isSign_1 : decode k_X10_isSign.2.1 1 = .ok (.i2l, 1) := by decide +kernel
theorem dX10_isSign_2 : decode k_X10_isSign.2.1 2 = .ok (.lconst 0, 1) := by decide +kernel
theorem dX10_isSign_3 : decode k_X10_isSign.2.1 3 = .ok (.ldc2_w 96, 3) := by decide +kernel
theorem dX10_isSign_6 : decode k_X10_isSign.2.1 6 = .ok (.invokestatic 98, 3) := by decide +kernel
theorem dX10_isSign_9 : decode k_X10_isSign.2.1 9 = .ok (.ifCond .ne 25, 3) := by decide +kernel
theorem dX10_isSign_12 : decode k_X10_isSign.2.1 12 = .ok (.iload_n 1, 1) := by decide +kernel
theorem dX10_isSign_13 : decode k_X10_isSign.2.1 13 = .ok (.i2l, 1) := by decide +kernel
theorem dX10_isSign_14 : decode k_X10_isSign.2.1 14 = .ok (.ldc2_w 102, 3) := by decide +kernel
theorem dX10_isSign_17 : decode k_X10_isSign.2.1 17 = .ok (.ldc2_w 104, 3) := by decide +kernel
theorem dX10_isSign_20 : decode k_X10_isSign.2.1 20 = .ok (.invokestatic 98, 3) := by decide +kernel
theorem dX10_isSign_23 : decode k_X10_isSign.2.1 23 = .ok (.ifCond .eq 15, 3) := by decide +kernel
theorem dX10_isSign_26 : decode k_X10_isSign.2.1 26 = .ok (.aload_n 0, 1) := by decide +kernel
theorem dX10_isSign_27 : decode k_X10_isSign.2.1 27 = .ok (.iload_n 1, 1) := by decide +kernel
theorem dX10_isSign_28 : decode k_X10_isSign.2.1 28 = .ok (.invokevirtual 106, 3) := by decide +kernel
theorem dX10_isSign_31 : decode k_X10_isSign.2.1 31 = .ok (.ifCond .le 7, 3) := by decide +kernel
theorem dX10_isSign_34 : decode k_X10_isSign.2.1 34 = .ok (.iconst 1, 1) := by decide +kernel
theorem dX10_isSign_35 : decode k_X10_isSign.2.1 35 = .ok (.goto 4, 3) := by decide +kernel
theorem dX10_isSign_38 : decode k_X10_isSign.2.1 38 = .ok (.iconst 0, 1) := by decide +kernel
theorem dX10_isSign_39 : decode k_X10_isSign.2.1 39 = .ok (.ireturn, 1) := by decide +kernel
theorem dX10_many_0 : decode k_X10_many.2.1 0 = .ok (.aload_n 0, 1) := by decide +kernel
theorem dX10_many_1 : decode k_X10_many.2.1 1 = .ok (.getfield 13, 3) := by decide +kernel
theorem dX10_many_4 : decode k_X10_many.2.1 4 = .ok (.iconst 0, 1) := by decide +kernel
theorem dX10_many_5 : decode k_X10_many.2.1 5 = .ok (.iaload, 1) := by decide +kernel
theorem dX10_many_6 : decode k_X10_many.2.1 6 = .ok (.ireturn, 1) := by decide +kernel
theorem dX10_signAt_0 : decode k_X10_signAt.2.1 0 = .ok (.aload_n 0, 1) := by decide +kernel
theorem dX10_signAt_1 : decode k_X10_signAt.2.1 1 = .ok (.getfield 13, 3) := by decide +kernel
theorem dX10_signAt_4 : decode k_X10_signAt.2.1 4 = .ok (.iconst 1, 1) := by decide +kernel
theorem dX10_signAt_5 : decode k_X10_signAt.2.1 5 = .ok (.iload_n 1, 1) := by decide +kernel
theorem dX10_signAt_6 : decode k_X10_signAt.2.1 6 = .ok (.iadd, 1) := by decide +kernel
theorem dX10_signAt_7 : decode k_X10_signAt.2.1 7 = .ok (.iaload, 1) := by decide +kernel
theorem dX10_signAt_8 : decode k_X10_signAt.2.1 8 = .ok (.ireturn, 1) := by decide +kernel
theorem dX10_laysWords_0 : decode k_X10_laysWords.2.1 0 = .ok (.iconst 0, 1) := by decide +kernel
theorem dX10_laysWords_1 : decode k_X10_laysWords.2.1 1 = .ok (.istore_n 1, 1) := by decide +kernel
theorem dX10_laysWords_2 : decode k_X10_laysWords.2.1 2 = .ok (.iload_n 1, 1) := by decide +kernel
theorem dX10_laysWords_3 : decode k_X10_laysWords.2.1 3 = .ok (.bipush 86, 2) := by decide +kernel
theorem dX10_laysWords_5 : decode k_X10_laysWords.2.1 5 = .ok (.if_icmp .ge 33, 3) := by decide +kernel
theorem dX10_laysWords_8 : decode k_X10_laysWords.2.1 8 = .ok (.aload_n 0, 1) := by decide +kernel
theorem dX10_laysWords_9 : decode k_X10_laysWords.2.1 9 = .ok (.getfield 30, 3) := by decide +kernel
theorem dX10_laysWords_12 : decode k_X10_laysWords.2.1 12 = .ok (.iload_n 1, 1) := by decide +kernel
theorem dX10_laysWords_13 : decode k_X10_laysWords.2.1 13 = .ok (.iload_n 1, 1) := by decide +kernel
theorem dX10_laysWords_14 : decode k_X10_laysWords.2.1 14 = .ok (.bipush 26, 2) := by decide +kernel
theorem dX10_laysWords_16 : decode k_X10_laysWords.2.1 16 = .ok (.if_icmp .ge 7, 3) := by decide +kernel
theorem dX10_laysWords_19 : decode k_X10_laysWords.2.1 19 = .ok (.iconst 1, 1) := by decide +kernel
theorem dX10_laysWords_20 : decode k_X10_laysWords.2.1 20 = .ok (.goto 4, 3) := by decide +kernel
theorem dX10_laysWords_23 : decode k_X10_laysWords.2.1 23 = .ok (.iconst 0, 1) := by decide +kernel
theorem dX10_laysWords_24 : decode k_X10_laysWords.2.1 24 = .ok (.iastore, 1) := by decide +kernel
theorem dX10_laysWords_25 : decode k_X10_laysWords.2.1 25 = .ok (.aload_n 0, 1) := by decide +kernel
theorem dX10_laysWords_26 : decode k_X10_laysWords.2.1 26 = .ok (.getfield 33, 3) := by decide +kernel
theorem dX10_laysWords_29 : decode k_X10_laysWords.2.1 29 = .ok (.iload_n 1, 1) := by decide +kernel
theorem dX10_laysWords_30 : decode k_X10_laysWords.2.1 30 = .ok (.iconst 0, 1) := by decide +kernel
theorem dX10_laysWords_31 : decode k_X10_laysWords.2.1 31 = .ok (.iastore, 1) := by decide +kernel
theorem dX10_laysWords_32 : decode k_X10_laysWords.2.1 32 = .ok (.iinc 1 1, 3) := by decide +kernel
theorem dX10_laysWords_35 : decode k_X10_laysWords.2.1 35 = .ok (.goto (-33), 3) := by decide +kernel
theorem dX10_laysWords_38 : decode k_X10_laysWords.2.1 38 = .ok (.bipush 26, 2) := by decide +kernel
theorem dX10_laysWords_40 : decode k_X10_laysWords.2.1 40 = .ok (.istore_n 1, 1) := by decide +kernel
theorem dX10_laysWords_41 : decode k_X10_laysWords.2.1 41 = .ok (.iload_n 1, 1) := by decide +kernel
theorem dX10_laysWords_42 : decode k_X10_laysWords.2.1 42 = .ok (.bipush 86, 2) := by decide +kernel
theorem dX10_laysWords_44 : decode k_X10_laysWords.2.1 44 = .ok (.if_icmp .ge 22, 3) := by decide +kernel
theorem dX10_laysWords_47 : decode k_X10_laysWords.2.1 47 = .ok (.aload_n 0, 1) := by decide +kernel
theorem dX10_laysWords_48 : decode k_X10_laysWords.2.1 48 = .ok (.iload_n 1, 1) := by decide +kernel
theorem dX10_laysWords_49 : decode k_X10_laysWords.2.1 49 = .ok (.invokevirtual 106, 3) := by decide +kernel
theorem dX10_laysWords_52 : decode k_X10_laysWords.2.1 52 = .ok (.ifCond .le 8, 3) := by decide +kernel
theorem dX10_laysWords_55 : decode k_X10_laysWords.2.1 55 = .ok (.aload_n 0, 1) := by decide +kernel
theorem dX10_laysWords_56 : decode k_X10_laysWords.2.1 56 = .ok (.iload_n 1, 1) := by decide +kernel
theorem dX10_laysWords_57 : decode k_X10_laysWords.2.1 57 = .ok (.invokevirtual 109, 3) := by decide +kernel
theorem dX10_laysWords_60 : decode k_X10_laysWords.2.1 60 = .ok (.iinc 1 1, 3) := by decide +kernel
theorem dX10_laysWords_63 : decode k_X10_laysWords.2.1 63 = .ok (.goto (-22), 3) := by decide +kernel
theorem dX10_laysWords_66 : decode k_X10_laysWords.2.1 66 = .ok (.return_, 1) := by decide +kernel
theorem dX10_laysWord_0 : decode k_X10_laysWord.2.1 0 = .ok (.aload_n 0, 1) := by decide +kernel
theorem dX10_laysWord_1 : decode k_X10_laysWord.2.1 1 = .ok (.getfield 30, 3) := by decide +kernel
theorem dX10_laysWord_4 : decode k_X10_laysWord.2.1 4 = .ok (.iload_n 1, 1) := by decide +kernel
theorem dX10_laysWord_5 : decode k_X10_laysWord.2.1 5 = .ok (.iaload, 1) := by decide +kernel
theorem dX10_laysWord_6 : decode k_X10_laysWord.2.1 6 = .ok (.ifCond .le 4, 3) := by decide +kernel
theorem dX10_laysWord_9 : decode k_X10_laysWord.2.1 9 = .ok (.return_, 1) := by decide +kernel
theorem dX10_laysWord_10 : decode k_X10_laysWord.2.1 10 = .ok (.iconst 0, 1) := by decide +kernel
theorem dX10_laysWord_11 : decode k_X10_laysWord.2.1 11 = .ok (.istore_n 2, 1) := by decide +kernel
theorem dX10_laysWord_12 : decode k_X10_laysWord.2.1 12 = .ok (.iconst 0, 1) := by decide +kernel
theorem dX10_laysWord_13 : decode k_X10_laysWord.2.1 13 = .ok (.istore_n 3, 1) := by decide +kernel
theorem dX10_laysWord_14 : decode k_X10_laysWord.2.1 14 = .ok (.iconst 0, 1) := by decide +kernel
theorem dX10_laysWord_15 : decode k_X10_laysWord.2.1 15 = .ok (.istore 4, 2) := by decide +kernel
theorem dX10_laysWord_17 : decode k_X10_laysWord.2.1 17 = .ok (.iload 4, 2) := by decide +kernel
theorem dX10_laysWord_19 : decode k_X10_laysWord.2.1 19 = .ok (.aload_n 0, 1) := by decide +kernel
theorem dX10_laysWord_20 : decode k_X10_laysWord.2.1 20 = .ok (.iload_n 1, 1) := by decide +kernel
theorem dX10_laysWord_21 : decode k_X10_laysWord.2.1 21 = .ok (.invokevirtual 106, 3) := by decide +kernel
theorem dX10_laysWord_24 : decode k_X10_laysWord.2.1 24 = .ok (.if_icmp .ge 52, 3) := by decide +kernel
theorem dX10_laysWord_27 : decode k_X10_laysWord.2.1 27 = .ok (.aload_n 0, 1) := by decide +kernel
theorem dX10_laysWord_28 : decode k_X10_laysWord.2.1 28 = .ok (.aload_n 0, 1) := by decide +kernel
theorem dX10_laysWord_29 : decode k_X10_laysWord.2.1 29 = .ok (.iload_n 1, 1) := by decide +kernel
theorem dX10_laysWord_30 : decode k_X10_laysWord.2.1 30 = .ok (.iload 4, 2) := by decide +kernel
theorem dX10_laysWord_32 : decode k_X10_laysWord.2.1 32 = .ok (.invokevirtual 113, 3) := by decide +kernel
theorem dX10_laysWord_35 : decode k_X10_laysWord.2.1 35 = .ok (.invokevirtual 109, 3) := by decide +kernel
theorem dX10_laysWord_38 : decode k_X10_laysWord.2.1 38 = .ok (.iload_n 2, 1) := by decide +kernel
theorem dX10_laysWord_39 : decode k_X10_laysWord.2.1 39 = .ok (.aload_n 0, 1) := by decide +kernel
theorem dX10_laysWord_40 : decode k_X10_laysWord.2.1 40 = .ok (.getfield 30, 3) := by decide +kernel
theorem dX10_laysWord_43 : decode k_X10_laysWord.2.1 43 = .ok (.aload_n 0, 1) := by decide +kernel
theorem dX10_laysWord_44 : decode k_X10_laysWord.2.1 44 = .ok (.iload_n 1, 1) := by decide +kernel
theorem dX10_laysWord_45 : decode k_X10_laysWord.2.1 45 = .ok (.iload 4, 2) := by decide +kernel
theorem dX10_laysWord_47 : decode k_X10_laysWord.2.1 47 = .ok (.invokevirtual 113, 3) := by decide +kernel
theorem dX10_laysWord_50 : decode k_X10_laysWord.2.1 50 = .ok (.iaload, 1) := by decide +kernel
theorem dX10_laysWord_51 : decode k_X10_laysWord.2.1 51 = .ok (.iadd, 1) := by decide +kernel
theorem dX10_laysWord_52 : decode k_X10_laysWord.2.1 52 = .ok (.istore_n 2, 1) := by decide +kernel
theorem dX10_laysWord_53 : decode k_X10_laysWord.2.1 53 = .ok (.iload_n 3, 1) := by decide +kernel
theorem dX10_laysWord_54 : decode k_X10_laysWord.2.1 54 = .ok (.aload_n 0, 1) := by decide +kernel
theorem dX10_laysWord_55 : decode k_X10_laysWord.2.1 55 = .ok (.getfield 33, 3) := by decide +kernel
theorem dX10_laysWord_58 : decode k_X10_laysWord.2.1 58 = .ok (.aload_n 0, 1) := by decide +kernel
theorem dX10_laysWord_59 : decode k_X10_laysWord.2.1 59 = .ok (.iload_n 1, 1) := by decide +kernel
theorem dX10_laysWord_60 : decode k_X10_laysWord.2.1 60 = .ok (.iload 4, 2) := by decide +kernel
theorem dX10_laysWord_62 : decode k_X10_laysWord.2.1 62 = .ok (.invokevirtual 113, 3) := by decide +kernel
theorem dX10_laysWord_65 : decode k_X10_laysWord.2.1 65 = .ok (.iaload, 1) := by decide +kernel
theorem dX10_laysWord_66 : decode k_X10_laysWord.2.1 66 = .ok (.invokestatic 117, 3) := by decide +kernel
theorem dX10_laysWord_69 : decode k_X10_laysWord.2.1 69 = .ok (.istore_n 3, 1) := by decide +kernel
theorem dX10_laysWord_70 : decode k_X10_laysWord.2.1 70 = .ok (.iinc 4 1, 3) := by decide +kernel
theorem dX10_laysWord_73 : decode k_X10_laysWord.2.1 73 = .ok (.goto (-56), 3) := by decide +kernel
theorem dX10_laysWord_76 : decode k_X10_laysWord.2.1 76 = .ok (.aload_n 0, 1) := by decide +kernel
theorem dX10_laysWord_77 : decode k_X10_laysWord.2.1 77 = .ok (.getfield 30, 3) := by decide +kernel
theorem dX10_laysWord_80 : decode k_X10_laysWord.2.1 80 = .ok (.iload_n 1, 1) := by decide +kernel
theorem dX10_laysWord_81 : decode k_X10_laysWord.2.1 81 = .ok (.iload_n 2, 1) := by decide +kernel
theorem dX10_laysWord_82 : decode k_X10_laysWord.2.1 82 = .ok (.iastore, 1) := by decide +kernel
theorem dX10_laysWord_83 : decode k_X10_laysWord.2.1 83 = .ok (.aload_n 0, 1) := by decide +kernel
theorem dX10_laysWord_84 : decode k_X10_laysWord.2.1 84 = .ok (.getfield 33, 3) := by decide +kernel
theorem dX10_laysWord_87 : decode k_X10_laysWord.2.1 87 = .ok (.iload_n 1, 1) := by decide +kernel
theorem dX10_laysWord_88 : decode k_X10_laysWord.2.1 88 = .ok (.iload_n 3, 1) := by decide +kernel
theorem dX10_laysWord_89 : decode k_X10_laysWord.2.1 89 = .ok (.iconst 1, 1) := by decide +kernel
theorem dX10_laysWord_90 : decode k_X10_laysWord.2.1 90 = .ok (.iadd, 1) := by decide +kernel
theorem dX10_laysWord_91 : decode k_X10_laysWord.2.1 91 = .ok (.iastore, 1) := by decide +kernel
theorem dX10_laysWord_92 : decode k_X10_laysWord.2.1 92 = .ok (.return_, 1) := by decide +kernel
theorem dX10_laysText_0 : decode k_X10_laysText.2.1 0 = .ok (.aload_n 0, 1) := by decide +kernel
theorem dX10_laysText_1 : decode k_X10_laysText.2.1 1 = .ok (.iconst 0, 1) := by decide +kernel
theorem dX10_laysText_2 : decode k_X10_laysText.2.1 2 = .ok (.putfield 120, 3) := by decide +kernel
theorem dX10_laysText_5 : decode k_X10_laysText.2.1 5 = .ok (.iconst 0, 1) := by decide +kernel
theorem dX10_laysText_6 : decode k_X10_laysText.2.1 6 = .ok (.istore_n 1, 1) := by decide +kernel
theorem dX10_laysText_7 : decode k_X10_laysText.2.1 7 = .ok (.iload_n 1, 1) := by decide +kernel
theorem dX10_laysText_8 : decode k_X10_laysText.2.1 8 = .ok (.aload_n 0, 1) := by decide +kernel
theorem dX10_laysText_9 : decode k_X10_laysText.2.1 9 = .ok (.invokevirtual 123, 3) := by decide +kernel
theorem dX10_laysText_12 : decode k_X10_laysText.2.1 12 = .ok (.if_icmp .ge 19, 3) := by decide +kernel
theorem dX10_laysText_15 : decode k_X10_laysText.2.1 15 = .ok (.aload_n 0, 1) := by decide +kernel
theorem dX10_laysText_16 : decode k_X10_laysText.2.1 16 = .ok (.aload_n 0, 1) := by decide +kernel
theorem dX10_laysText_17 : decode k_X10_laysText.2.1 17 = .ok (.iload_n 1, 1) := by decide +kernel
theorem dX10_laysText_18 : decode k_X10_laysText.2.1 18 = .ok (.invokevirtual 127, 3) := by decide +kernel
theorem dX10_laysText_21 : decode k_X10_laysText.2.1 21 = .ok (.iconst 0, 1) := by decide +kernel
theorem dX10_laysText_22 : decode k_X10_laysText.2.1 22 = .ok (.invokevirtual 130, 3) := by decide +kernel
theorem dX10_laysText_25 : decode k_X10_laysText.2.1 25 = .ok (.iinc 1 1, 3) := by decide +kernel
theorem dX10_laysText_28 : decode k_X10_laysText.2.1 28 = .ok (.goto (-21), 3) := by decide +kernel
theorem dX10_laysText_31 : decode k_X10_laysText.2.1 31 = .ok (.return_, 1) := by decide +kernel
theorem dX10_laysOut_0 : decode k_X10_laysOut.2.1 0 = .ok (.iload_n 1, 1) := by decide +kernel
theorem dX10_laysOut_1 : decode k_X10_laysOut.2.1 1 = .ok (.bipush 26, 2) := by decide +kernel
theorem dX10_laysOut_3 : decode k_X10_laysOut.2.1 3 = .ok (.if_icmp .ge 34, 3) := by decide +kernel
theorem dX10_laysOut_6 : decode k_X10_laysOut.2.1 6 = .ok (.aload_n 0, 1) := by decide +kernel
theorem dX10_laysOut_7 : decode k_X10_laysOut.2.1 7 = .ok (.getfield 36, 3) := by decide +kernel
theorem dX10_laysOut_10 : decode k_X10_laysOut.2.1 10 = .ok (.aload_n 0, 1) := by decide +kernel
theorem dX10_laysOut_11 : decode k_X10_laysOut.2.1 11 = .ok (.getfield 120, 3) := by decide +kernel
theorem dX10_laysOut_14 : decode k_X10_laysOut.2.1 14 = .ok (.iload_n 1, 1) := by decide +kernel
theorem dX10_laysOut_15 : decode k_X10_laysOut.2.1 15 = .ok (.iastore, 1) := by decide +kernel
theorem dX10_laysOut_16 : decode k_X10_laysOut.2.1 16 = .ok (.aload_n 0, 1) := by decide +kernel
theorem dX10_laysOut_17 : decode k_X10_laysOut.2.1 17 = .ok (.getfield 39, 3) := by decide +kernel
theorem dX10_laysOut_20 : decode k_X10_laysOut.2.1 20 = .ok (.aload_n 0, 1) := by decide +kernel
theorem dX10_laysOut_21 : decode k_X10_laysOut.2.1 21 = .ok (.getfield 120, 3) := by decide +kernel
theorem dX10_laysOut_24 : decode k_X10_laysOut.2.1 24 = .ok (.iload_n 2, 1) := by decide +kernel
theorem dX10_laysOut_25 : decode k_X10_laysOut.2.1 25 = .ok (.iastore, 1) := by decide +kernel
theorem dX10_laysOut_26 : decode k_X10_laysOut.2.1 26 = .ok (.aload_n 0, 1) := by decide +kernel
theorem dX10_laysOut_27 : decode k_X10_laysOut.2.1 27 = .ok (.dup, 1) := by decide +kernel
theorem dX10_laysOut_28 : decode k_X10_laysOut.2.1 28 = .ok (.getfield 120, 3) := by decide +kernel
theorem dX10_laysOut_31 : decode k_X10_laysOut.2.1 31 = .ok (.iconst 1, 1) := by decide +kernel
theorem dX10_laysOut_32 : decode k_X10_laysOut.2.1 32 = .ok (.iadd, 1) := by decide +kernel
theorem dX10_laysOut_33 : decode k_X10_laysOut.2.1 33 = .ok (.putfield 120, 3) := by decide +kernel
theorem dX10_laysOut_36 : decode k_X10_laysOut.2.1 36 = .ok (.return_, 1) := by decide +kernel
theorem dX10_laysOut_37 : decode k_X10_laysOut.2.1 37 = .ok (.iconst 0, 1) := by decide +kernel
theorem dX10_laysOut_38 : decode k_X10_laysOut.2.1 38 = .ok (.istore_n 3, 1) := by decide +kernel
theorem dX10_laysOut_39 : decode k_X10_laysOut.2.1 39 = .ok (.iload_n 3, 1) := by decide +kernel
theorem dX10_laysOut_40 : decode k_X10_laysOut.2.1 40 = .ok (.aload_n 0, 1) := by decide +kernel
theorem dX10_laysOut_41 : decode k_X10_laysOut.2.1 41 = .ok (.iload_n 1, 1) := by decide +kernel
theorem dX10_laysOut_42 : decode k_X10_laysOut.2.1 42 = .ok (.invokevirtual 106, 3) := by decide +kernel
theorem dX10_laysOut_45 : decode k_X10_laysOut.2.1 45 = .ok (.if_icmp .ge 22, 3) := by decide +kernel
theorem dX10_laysOut_48 : decode k_X10_laysOut.2.1 48 = .ok (.aload_n 0, 1) := by decide +kernel
theorem dX10_laysOut_49 : decode k_X10_laysOut.2.1 49 = .ok (.aload_n 0, 1) := by decide +kernel
theorem dX10_laysOut_50 : decode k_X10_laysOut.2.1 50 = .ok (.iload_n 1, 1) := by decide +kernel
theorem dX10_laysOut_51 : decode k_X10_laysOut.2.1 51 = .ok (.iload_n 3, 1) := by decide +kernel
theorem dX10_laysOut_52 : decode k_X10_laysOut.2.1 52 = .ok (.invokevirtual 113, 3) := by decide +kernel
theorem dX10_laysOut_55 : decode k_X10_laysOut.2.1 55 = .ok (.iload_n 2, 1) := by decide +kernel
theorem dX10_laysOut_56 : decode k_X10_laysOut.2.1 56 = .ok (.iconst 1, 1) := by decide +kernel
theorem dX10_laysOut_57 : decode k_X10_laysOut.2.1 57 = .ok (.iadd, 1) := by decide +kernel
theorem dX10_laysOut_58 : decode k_X10_laysOut.2.1 58 = .ok (.invokevirtual 130, 3) := by decide +kernel
theorem dX10_laysOut_61 : decode k_X10_laysOut.2.1 61 = .ok (.iinc 3 1, 3) := by decide +kernel
theorem dX10_laysOut_64 : decode k_X10_laysOut.2.1 64 = .ok (.goto (-25), 3) := by decide +kernel
theorem dX10_laysOut_67 : decode k_X10_laysOut.2.1 67 = .ok (.return_, 1) := by decide +kernel
theorem dX10_lettersMany_0 : decode k_X10_lettersMany.2.1 0 = .ok (.aload_n 0, 1) := by decide +kernel
theorem dX10_lettersMany_1 : decode k_X10_lettersMany.2.1 1 = .ok (.invokevirtual 134, 3) := by decide +kernel
theorem dX10_lettersMany_4 : decode k_X10_lettersMany.2.1 4 = .ok (.iconst 0, 1) := by decide +kernel
theorem dX10_lettersMany_5 : decode k_X10_lettersMany.2.1 5 = .ok (.istore_n 1, 1) := by decide +kernel
theorem dX10_lettersMany_6 : decode k_X10_lettersMany.2.1 6 = .ok (.iconst 0, 1) := by decide +kernel
theorem dX10_lettersMany_7 : decode k_X10_lettersMany.2.1 7 = .ok (.istore_n 2, 1) := by decide +kernel
theorem dX10_lettersMany_8 : decode k_X10_lettersMany.2.1 8 = .ok (.iload_n 2, 1) := by decide +kernel
theorem dX10_lettersMany_9 : decode k_X10_lettersMany.2.1 9 = .ok (.aload_n 0, 1) := by decide +kernel
theorem dX10_lettersMany_10 : decode k_X10_lettersMany.2.1 10 = .ok (.invokevirtual 123, 3) := by decide +kernel
theorem dX10_lettersMany_13 : decode k_X10_lettersMany.2.1 13 = .ok (.if_icmp .ge 22, 3) := by decide +kernel
theorem dX10_lettersMany_16 : decode k_X10_lettersMany.2.1 16 = .ok (.iload_n 1, 1) := by decide +kernel
theorem dX10_lettersMany_17 : decode k_X10_lettersMany.2.1 17 = .ok (.aload_n 0, 1) := by decide +kernel
theorem dX10_lettersMany_18 : decode k_X10_lettersMany.2.1 18 = .ok (.getfield 30, 3) := by decide +kernel
theorem dX10_lettersMany_21 : decode k_X10_lettersMany.2.1 21 = .ok (.aload_n 0, 1) := by decide +kernel
theorem dX10_lettersMany_22 : decode k_X10_lettersMany.2.1 22 = .ok (.iload_n 2, 1) := by decide +kernel
theorem dX10_lettersMany_23 : decode k_X10_lettersMany.2.1 23 = .ok (.invokevirtual 127, 3) := by decide +kernel
theorem dX10_lettersMany_26 : decode k_X10_lettersMany.2.1 26 = .ok (.iaload, 1) := by decide +kernel
theorem dX10_lettersMany_27 : decode k_X10_lettersMany.2.1 27 = .ok (.iadd, 1) := by decide +kernel
theorem dX10_lettersMany_28 : decode k_X10_lettersMany.2.1 28 = .ok (.istore_n 1, 1) := by decide +kernel
theorem dX10_lettersMany_29 : decode k_X10_lettersMany.2.1 29 = .ok (.iinc 2 1, 3) := by decide +kernel
theorem dX10_lettersMany_32 : decode k_X10_lettersMany.2.1 32 = .ok (.goto (-24), 3) := by decide +kernel
theorem dX10_lettersMany_35 : decode k_X10_lettersMany.2.1 35 = .ok (.iload_n 1, 1) := by decide +kernel
theorem dX10_lettersMany_36 : decode k_X10_lettersMany.2.1 36 = .ok (.ireturn, 1) := by decide +kernel
theorem dX10_feed_0 : decode k_X10_feed.2.1 0 = .ok (.aload_n 0, 1) := by decide +kernel
theorem dX10_feed_1 : decode k_X10_feed.2.1 1 = .ok (.iconst 0, 1) := by decide +kernel
theorem dX10_feed_2 : decode k_X10_feed.2.1 2 = .ok (.putfield 1, 3) := by decide +kernel
theorem dX10_feed_5 : decode k_X10_feed.2.1 5 = .ok (.aload_n 0, 1) := by decide +kernel
theorem dX10_feed_6 : decode k_X10_feed.2.1 6 = .ok (.getfield 137, 3) := by decide +kernel
theorem dX10_feed_9 : decode k_X10_feed.2.1 9 = .ok (.bipush 20, 2) := by decide +kernel
theorem dX10_feed_11 : decode k_X10_feed.2.1 11 = .ok (.iadd, 1) := by decide +kernel
theorem dX10_feed_12 : decode k_X10_feed.2.1 12 = .ok (.sipush 260, 3) := by decide +kernel
theorem dX10_feed_15 : decode k_X10_feed.2.1 15 = .ok (.if_icmp .le 6, 3) := by decide +kernel
theorem dX10_feed_18 : decode k_X10_feed.2.1 18 = .ok (.bipush (-4), 2) := by decide +kernel
theorem dX10_feed_20 : decode k_X10_feed.2.1 20 = .ok (.ireturn, 1) := by decide +kernel
theorem dX10_feed_21 : decode k_X10_feed.2.1 21 = .ok (.iconst 0, 1) := by decide +kernel
theorem dX10_feed_22 : decode k_X10_feed.2.1 22 = .ok (.istore 6, 2) := by decide +kernel
theorem dX10_feed_24 : decode k_X10_feed.2.1 24 = .ok (.iload 6, 2) := by decide +kernel
theorem dX10_feed_26 : decode k_X10_feed.2.1 26 = .ok (.bipush 20, 2) := by decide +kernel
theorem dX10_feed_28 : decode k_X10_feed.2.1 28 = .ok (.if_icmp .ge 90, 3) := by decide +kernel
theorem dX10_feed_31 : decode k_X10_feed.2.1 31 = .ok (.iload 6, 2) := by decide +kernel
theorem dX10_feed_33 : decode k_X10_feed.2.1 33 = .ok (.iconst 4, 1) := by decide +kernel
theorem dX10_feed_34 : decode k_X10_feed.2.1 34 = .ok (.if_icmp .ge 7, 3) := by decide +kernel
theorem dX10_feed_37 : decode k_X10_feed.2.1 37 = .ok (.iload_n 1, 1) := by decide +kernel
theorem dX10_feed_38 : decode k_X10_feed.2.1 38 = .ok (.goto 39, 3) := by decide +kernel
theorem dX10_feed_41 : decode k_X10_feed.2.1 41 = .ok (.iload 6, 2) := by decide +kernel
theorem dX10_feed_43 : decode k_X10_feed.2.1 43 = .ok (.bipush 8, 2) := by decide +kernel
theorem dX10_feed_45 : decode k_X10_feed.2.1 45 = .ok (.if_icmp .ge 7, 3) := by decide +kernel
theorem dX10_feed_48 : decode k_X10_feed.2.1 48 = .ok (.iload_n 2, 1) := by decide +kernel
theorem dX10_feed_49 : decode k_X10_feed.2.1 49 = .ok (.goto 28, 3) := by decide +kernel
theorem dX10_feed_52 : decode k_X10_feed.2.1 52 = .ok (.iload 6, 2) := by decide +kernel
theorem dX10_feed_54 : decode k_X10_feed.2.1 54 = .ok (.bipush 12, 2) := by decide +kernel
theorem dX10_feed_56 : decode k_X10_feed.2.1 56 = .ok (.if_icmp .ge 7, 3) := by decide +kernel
theorem dX10_feed_59 : decode k_X10_feed.2.1 59 = .ok (.iload_n 3, 1) := by decide +kernel
theorem dX10_feed_60 : decode k_X10_feed.2.1 60 = .ok (.goto 17, 3) := by decide +kernel
theorem dX10_feed_63 : decode k_X10_feed.2.1 63 = .ok (.iload 6, 2) := by decide +kernel
theorem dX10_feed_65 : decode k_X10_feed.2.1 65 = .ok (.bipush 16, 2) := by decide +kernel
theorem dX10_feed_67 : decode k_X10_feed.2.1 67 = .ok (.if_icmp .ge 8, 3) := by decide +kernel
theorem dX10_feed_70 : decode k_X10_feed.2.1 70 = .ok (.iload 4, 2) := by decide +kernel
theorem dX10_feed_72 : decode k_X10_feed.2.1 72 = .ok (.goto 5, 3) := by decide +kernel
theorem dX10_feed_75 : decode k_X10_feed.2.1 75 = .ok (.iload 5, 2) := by decide +kernel
theorem dX10_feed_77 : decode k_X10_feed.2.1 77 = .ok (.istore 7, 2) := by decide +kernel
theorem dX10_feed_79 : decode k_X10_feed.2.1 79 = .ok (.aload_n 0, 1) := by decide +kernel
theorem dX10_feed_80 : decode k_X10_feed.2.1 80 = .ok (.getfield 42, 3) := by decide +kernel
theorem dX10_feed_83 : decode k_X10_feed.2.1 83 = .ok (.aload_n 0, 1) := by decide +kernel
theorem dX10_feed_84 : decode k_X10_feed.2.1 84 = .ok (.getfield 137, 3) := by decide +kernel
theorem dX10_feed_87 : decode k_X10_feed.2.1 87 = .ok (.iload 7, 2) := by decide +kernel
theorem dX10_feed_89 : decode k_X10_feed.2.1 89 = .ok (.bipush 24, 2) := by decide +kernel
theorem dX10_feed_91 : decode k_X10_feed.2.1 91 = .ok (.bipush 8, 2) := by decide +kernel
theorem dX10_feed_93 : decode k_X10_feed.2.1 93 = .ok (.iload 6, 2) := by decide +kernel
theorem dX10_feed_95 : decode k_X10_feed.2.1 95 = .ok (.iconst 4, 1) := by decide +kernel
theorem dX10_feed_96 : decode k_X10_feed.2.1 96 = .ok (.irem, 1) := by decide +kernel
theorem dX10_feed_97 : decode k_X10_feed.2.1 97 = .ok (.imul, 1) := by decide +kernel
theorem dX10_feed_98 : decode k_X10_feed.2.1 98 = .ok (.isub, 1) := by decide +kernel
theorem dX10_feed_99 : decode k_X10_feed.2.1 99 = .ok (.ishr, 1) := by decide +kernel
theorem dX10_feed_100 : decode k_X10_feed.2.1 100 = .ok (.i2b, 1) := by decide +kernel
theorem dX10_feed_101 : decode k_X10_feed.2.1 101 = .ok (.bastore, 1) := by decide +kernel
theorem dX10_feed_102 : decode k_X10_feed.2.1 102 = .ok (.aload_n 0, 1) := by decide +kernel
theorem dX10_feed_103 : decode k_X10_feed.2.1 103 = .ok (.dup, 1) := by decide +kernel
theorem dX10_feed_104 : decode k_X10_feed.2.1 104 = .ok (.getfield 137, 3) := by decide +kernel
theorem dX10_feed_107 : decode k_X10_feed.2.1 107 = .ok (.iconst 1, 1) := by decide +kernel
theorem dX10_feed_108 : decode k_X10_feed.2.1 108 = .ok (.iadd, 1) := by decide +kernel
theorem dX10_feed_109 : decode k_X10_feed.2.1 109 = .ok (.putfield 137, 3) := by decide +kernel
theorem dX10_feed_112 : decode k_X10_feed.2.1 112 = .ok (.iinc 6 1, 3) := by decide +kernel
theorem dX10_feed_115 : decode k_X10_feed.2.1 115 = .ok (.goto (-91), 3) := by decide +kernel
theorem dX10_feed_118 : decode k_X10_feed.2.1 118 = .ok (.aload_n 0, 1) := by decide +kernel
theorem dX10_feed_119 : decode k_X10_feed.2.1 119 = .ok (.getfield 137, 3) := by decide +kernel
theorem dX10_feed_122 : decode k_X10_feed.2.1 122 = .ok (.ireturn, 1) := by decide +kernel
theorem dX10_takes_0 : decode k_X10_takes.2.1 0 = .ok (.iload_n 1, 1) := by decide +kernel
theorem dX10_takes_1 : decode k_X10_takes.2.1 1 = .ok (.i2l, 1) := by decide +kernel
theorem dX10_takes_2 : decode k_X10_takes.2.1 2 = .ok (.lconst 0, 1) := by decide +kernel
theorem dX10_takes_3 : decode k_X10_takes.2.1 3 = .ok (.aload_n 0, 1) := by decide +kernel
theorem dX10_takes_4 : decode k_X10_takes.2.1 4 = .ok (.getfield 137, 3) := by decide +kernel
theorem dX10_takes_7 : decode k_X10_takes.2.1 7 = .ok (.i2l, 1) := by decide +kernel
theorem dX10_takes_8 : decode k_X10_takes.2.1 8 = .ok (.invokestatic 98, 3) := by decide +kernel
theorem dX10_takes_11 : decode k_X10_takes.2.1 11 = .ok (.ifCond .ne 6, 3) := by decide +kernel
theorem dX10_takes_14 : decode k_X10_takes.2.1 14 = .ok (.bipush (-3), 2) := by decide +kernel
theorem dX10_takes_16 : decode k_X10_takes.2.1 16 = .ok (.ireturn, 1) := by decide +kernel
theorem dX10_takes_17 : decode k_X10_takes.2.1 17 = .ok (.aload_n 0, 1) := by decide +kernel
theorem dX10_takes_18 : decode k_X10_takes.2.1 18 = .ok (.iconst 0, 1) := by decide +kernel
theorem dX10_takes_19 : decode k_X10_takes.2.1 19 = .ok (.putfield 137, 3) := by decide +kernel
theorem dX10_takes_22 : decode k_X10_takes.2.1 22 = .ok (.aload_n 0, 1) := by decide +kernel
theorem dX10_takes_23 : decode k_X10_takes.2.1 23 = .ok (.iconst 0, 1) := by decide +kernel
theorem dX10_takes_24 : decode k_X10_takes.2.1 24 = .ok (.putfield 140, 3) := by decide +kernel
theorem dX10_takes_27 : decode k_X10_takes.2.1 27 = .ok (.aload_n 0, 1) := by decide +kernel
theorem dX10_takes_28 : decode k_X10_takes.2.1 28 = .ok (.iconst (-1), 1) := by decide +kernel
theorem dX10_takes_29 : decode k_X10_takes.2.1 29 = .ok (.putfield 46, 3) := by decide +kernel
theorem dX10_takes_32 : decode k_X10_takes.2.1 32 = .ok (.iload_n 1, 1) := by decide +kernel
theorem dX10_takes_33 : decode k_X10_takes.2.1 33 = .ok (.i2l, 1) := by decide +kernel
theorem dX10_takes_34 : decode k_X10_takes.2.1 34 = .ok (.iload_n 2, 1) := by decide +kernel
theorem dX10_takes_35 : decode k_X10_takes.2.1 35 = .ok (.i2l, 1) := by decide +kernel
theorem dX10_takes_36 : decode k_X10_takes.2.1 36 = .ok (.iload_n 3, 1) := by decide +kernel
theorem dX10_takes_37 : decode k_X10_takes.2.1 37 = .ok (.i2l, 1) := by decide +kernel
theorem dX10_takes_38 : decode k_X10_takes.2.1 38 = .ok (.invokestatic 98, 3) := by decide +kernel
theorem dX10_takes_41 : decode k_X10_takes.2.1 41 = .ok (.ifCond .ne 6, 3) := by decide +kernel
theorem dX10_takes_44 : decode k_X10_takes.2.1 44 = .ok (.bipush (-4), 2) := by decide +kernel
theorem dX10_takes_46 : decode k_X10_takes.2.1 46 = .ok (.ireturn, 1) := by decide +kernel
theorem dX10_takes_47 : decode k_X10_takes.2.1 47 = .ok (.iload_n 1, 1) := by decide +kernel
theorem dX10_takes_48 : decode k_X10_takes.2.1 48 = .ok (.iconst 1, 1) := by decide +kernel
theorem dX10_takes_49 : decode k_X10_takes.2.1 49 = .ok (.isub, 1) := by decide +kernel
theorem dX10_takes_50 : decode k_X10_takes.2.1 50 = .ok (.istore 4, 2) := by decide +kernel
theorem dX10_takes_52 : decode k_X10_takes.2.1 52 = .ok (.iload 4, 2) := by decide +kernel
theorem dX10_takes_54 : decode k_X10_takes.2.1 54 = .ok (.ifCond .lt 35, 3) := by decide +kernel
theorem dX10_takes_57 : decode k_X10_takes.2.1 57 = .ok (.aload_n 0, 1) := by decide +kernel
theorem dX10_takes_58 : decode k_X10_takes.2.1 58 = .ok (.getfield 42, 3) := by decide +kernel
theorem dX10_takes_61 : decode k_X10_takes.2.1 61 = .ok (.iload 4, 2) := by decide +kernel
theorem dX10_takes_63 : decode k_X10_takes.2.1 63 = .ok (.baload, 1) := by decide +kernel
theorem dX10_takes_64 : decode k_X10_takes.2.1 64 = .ok (.i2l, 1) := by decide +kernel
theorem dX10_takes_65 : decode k_X10_takes.2.1 65 = .ok (.ldc2_w 143, 3) := by decide +kernel
theorem dX10_takes_68 : decode k_X10_takes.2.1 68 = .ok (.ldc2_w 145, 3) := by decide +kernel
theorem dX10_takes_71 : decode k_X10_takes.2.1 71 = .ok (.invokestatic 98, 3) := by decide +kernel
theorem dX10_takes_74 : decode k_X10_takes.2.1 74 = .ok (.ifCond .ne 9, 3) := by decide +kernel
theorem dX10_takes_77 : decode k_X10_takes.2.1 77 = .ok (.aload_n 0, 1) := by decide +kernel
theorem dX10_takes_78 : decode k_X10_takes.2.1 78 = .ok (.iload 4, 2) := by decide +kernel
theorem dX10_takes_80 : decode k_X10_takes.2.1 80 = .ok (.putfield 46, 3) := by decide +kernel
theorem dX10_takes_83 : decode k_X10_takes.2.1 83 = .ok (.iinc 4 (-1), 3) := by decide +kernel
theorem dX10_takes_86 : decode k_X10_takes.2.1 86 = .ok (.goto (-34), 3) := by decide +kernel
theorem dX10_takes_89 : decode k_X10_takes.2.1 89 = .ok (.aload_n 0, 1) := by decide +kernel
theorem dX10_takes_90 : decode k_X10_takes.2.1 90 = .ok (.getfield 46, 3) := by decide +kernel
theorem dX10_takes_93 : decode k_X10_takes.2.1 93 = .ok (.iconst (-1), 1) := by decide +kernel
theorem dX10_takes_94 : decode k_X10_takes.2.1 94 = .ok (.if_icmp .ne 5, 3) := by decide +kernel
theorem dX10_takes_97 : decode k_X10_takes.2.1 97 = .ok (.iconst 0, 1) := by decide +kernel
theorem dX10_takes_98 : decode k_X10_takes.2.1 98 = .ok (.ireturn, 1) := by decide +kernel
theorem dX10_takes_99 : decode k_X10_takes.2.1 99 = .ok (.aload_n 0, 1) := by decide +kernel
theorem dX10_takes_100 : decode k_X10_takes.2.1 100 = .ok (.iconst 1, 1) := by decide +kernel
theorem dX10_takes_101 : decode k_X10_takes.2.1 101 = .ok (.putfield 140, 3) := by decide +kernel
theorem dX10_takes_104 : decode k_X10_takes.2.1 104 = .ok (.bipush (-31), 2) := by decide +kernel
theorem dX10_takes_106 : decode k_X10_takes.2.1 106 = .ok (.ireturn, 1) := by decide +kernel
theorem dX10_fails_0 : decode k_X10_fails.2.1 0 = .ok (.aload_n 0, 1) := by decide +kernel
theorem dX10_fails_1 : decode k_X10_fails.2.1 1 = .ok (.iload_n 1, 1) := by decide +kernel
theorem dX10_fails_2 : decode k_X10_fails.2.1 2 = .ok (.putfield 140, 3) := by decide +kernel
theorem dX10_fails_5 : decode k_X10_fails.2.1 5 = .ok (.aload_n 0, 1) := by decide +kernel
theorem dX10_fails_6 : decode k_X10_fails.2.1 6 = .ok (.iload_n 2, 1) := by decide +kernel
theorem dX10_fails_7 : decode k_X10_fails.2.1 7 = .ok (.putfield 46, 3) := by decide +kernel
theorem dX10_fails_10 : decode k_X10_fails.2.1 10 = .ok (.bipush (-30), 2) := by decide +kernel
theorem dX10_fails_12 : decode k_X10_fails.2.1 12 = .ok (.iload_n 1, 1) := by decide +kernel
theorem dX10_fails_13 : decode k_X10_fails.2.1 13 = .ok (.isub, 1) := by decide +kernel
theorem dX10_fails_14 : decode k_X10_fails.2.1 14 = .ok (.ireturn, 1) := by decide +kernel
theorem dX10_nextByte_0 : decode k_X10_nextByte.2.1 0 = .ok (.aload_n 0, 1) := by decide +kernel
theorem dX10_nextByte_1 : decode k_X10_nextByte.2.1 1 = .ok (.getfield 147, 3) := by decide +kernel
theorem dX10_nextByte_4 : decode k_X10_nextByte.2.1 4 = .ok (.aload_n 0, 1) := by decide +kernel
theorem dX10_nextByte_5 : decode k_X10_nextByte.2.1 5 = .ok (.getfield 150, 3) := by decide +kernel
theorem dX10_nextByte_8 : decode k_X10_nextByte.2.1 8 = .ok (.if_icmp .ne 13, 3) := by decide +kernel
theorem dX10_nextByte_11 : decode k_X10_nextByte.2.1 11 = .ok (.aload_n 0, 1) := by decide +kernel
theorem dX10_nextByte_12 : decode k_X10_nextByte.2.1 12 = .ok (.iconst 1, 1) := by decide +kernel
theorem dX10_nextByte_13 : decode k_X10_nextByte.2.1 13 = .ok (.aload_n 0, 1) := by decide +kernel
theorem dX10_nextByte_14 : decode k_X10_nextByte.2.1 14 = .ok (.getfield 147, 3) := by decide +kernel
theorem dX10_nextByte_17 : decode k_X10_nextByte.2.1 17 = .ok (.invokevirtual 153, 3) := by decide +kernel
theorem dX10_nextByte_20 : decode k_X10_nextByte.2.1 20 = .ok (.ireturn, 1) := by decide +kernel
theorem dX10_nextByte_21 : decode k_X10_nextByte.2.1 21 = .ok (.aload_n 0, 1) := by decide +kernel
theorem dX10_nextByte_22 : decode k_X10_nextByte.2.1 22 = .ok (.getfield 42, 3) := by decide +kernel
theorem dX10_nextByte_25 : decode k_X10_nextByte.2.1 25 = .ok (.aload_n 0, 1) := by decide +kernel
theorem dX10_nextByte_26 : decode k_X10_nextByte.2.1 26 = .ok (.getfield 147, 3) := by decide +kernel
theorem dX10_nextByte_29 : decode k_X10_nextByte.2.1 29 = .ok (.baload, 1) := by decide +kernel
theorem dX10_nextByte_30 : decode k_X10_nextByte.2.1 30 = .ok (.sipush 255, 3) := by decide +kernel
theorem dX10_nextByte_33 : decode k_X10_nextByte.2.1 33 = .ok (.iand, 1) := by decide +kernel
theorem dX10_nextByte_34 : decode k_X10_nextByte.2.1 34 = .ok (.istore_n 3, 1) := by decide +kernel
theorem dX10_nextByte_35 : decode k_X10_nextByte.2.1 35 = .ok (.iload_n 3, 1) := by decide +kernel
theorem dX10_nextByte_36 : decode k_X10_nextByte.2.1 36 = .ok (.i2l, 1) := by decide +kernel
theorem dX10_nextByte_37 : decode k_X10_nextByte.2.1 37 = .ok (.iload_n 1, 1) := by decide +kernel
theorem dX10_nextByte_38 : decode k_X10_nextByte.2.1 38 = .ok (.i2l, 1) := by decide +kernel
theorem dX10_nextByte_39 : decode k_X10_nextByte.2.1 39 = .ok (.iload_n 2, 1) := by decide +kernel
theorem dX10_nextByte_40 : decode k_X10_nextByte.2.1 40 = .ok (.i2l, 1) := by decide +kernel
theorem dX10_nextByte_41 : decode k_X10_nextByte.2.1 41 = .ok (.invokestatic 98, 3) := by decide +kernel
theorem dX10_nextByte_44 : decode k_X10_nextByte.2.1 44 = .ok (.ifCond .ne 13, 3) := by decide +kernel
theorem dX10_nextByte_47 : decode k_X10_nextByte.2.1 47 = .ok (.aload_n 0, 1) := by decide +kernel
theorem dX10_nextByte_48 : decode k_X10_nextByte.2.1 48 = .ok (.iconst 2, 1) := by decide +kernel
theorem dX10_nextByte_49 : decode k_X10_nextByte.2.1 49 = .ok (.aload_n 0, 1) := by decide +kernel
theorem dX10_nextByte_50 : decode k_X10_nextByte.2.1 50 = .ok (.getfield 147, 3) := by decide +kernel
theorem dX10_nextByte_53 : decode k_X10_nextByte.2.1 53 = .ok (.invokevirtual 153, 3) := by decide +kernel
theorem dX10_nextByte_56 : decode k_X10_nextByte.2.1 56 = .ok (.ireturn, 1) := by decide +kernel
theorem dX10_nextByte_57 : decode k_X10_nextByte.2.1 57 = .ok (.aload_n 0, 1) := by decide +kernel
theorem dX10_nextByte_58 : decode k_X10_nextByte.2.1 58 = .ok (.dup, 1) := by decide +kernel
theorem dX10_nextByte_59 : decode k_X10_nextByte.2.1 59 = .ok (.getfield 147, 3) := by decide +kernel
theorem dX10_nextByte_62 : decode k_X10_nextByte.2.1 62 = .ok (.iconst 1, 1) := by decide +kernel
theorem dX10_nextByte_63 : decode k_X10_nextByte.2.1 63 = .ok (.iadd, 1) := by decide +kernel
theorem dX10_nextByte_64 : decode k_X10_nextByte.2.1 64 = .ok (.putfield 147, 3) := by decide +kernel
theorem dX10_nextByte_67 : decode k_X10_nextByte.2.1 67 = .ok (.iload_n 3, 1) := by decide +kernel
theorem dX10_nextByte_68 : decode k_X10_nextByte.2.1 68 = .ok (.ireturn, 1) := by decide +kernel
theorem dX10_nextSigns_0 : decode k_X10_nextSigns.2.1 0 = .ok (.iconst 0, 1) := by decide +kernel
theorem dX10_nextSigns_1 : decode k_X10_nextSigns.2.1 1 = .ok (.istore_n 3, 1) := by decide +kernel
theorem dX10_nextSigns_2 : decode k_X10_nextSigns.2.1 2 = .ok (.iconst 0, 1) := by decide +kernel
theorem dX10_nextSigns_3 : decode k_X10_nextSigns.2.1 3 = .ok (.istore 4, 2) := by decide +kernel
theorem dX10_nextSigns_5 : decode k_X10_nextSigns.2.1 5 = .ok (.iload 4, 2) := by decide +kernel
theorem dX10_nextSigns_7 : decode k_X10_nextSigns.2.1 7 = .ok (.iload_n 2, 1) := by decide +kernel
theorem dX10_nextSigns_8 : decode k_X10_nextSigns.2.1 8 = .ok (.if_icmp .ge 127, 3) := by decide +kernel
theorem dX10_nextSigns_11 : decode k_X10_nextSigns.2.1 11 = .ok (.aload_n 0, 1) := by decide +kernel
theorem dX10_nextSigns_12 : decode k_X10_nextSigns.2.1 12 = .ok (.getfield 147, 3) := by decide +kernel
theorem dX10_nextSigns_15 : decode k_X10_nextSigns.2.1 15 = .ok (.aload_n 0, 1) := by decide +kernel
theorem dX10_nextSigns_16 : decode k_X10_nextSigns.2.1 16 = .ok (.getfield 150, 3) := by decide +kernel
theorem dX10_nextSigns_19 : decode k_X10_nextSigns.2.1 19 = .ok (.if_icmp .ne 13, 3) := by decide +kernel
theorem dX10_nextSigns_22 : decode k_X10_nextSigns.2.1 22 = .ok (.aload_n 0, 1) := by decide +kernel
theorem dX10_nextSigns_23 : decode k_X10_nextSigns.2.1 23 = .ok (.iconst 1, 1) := by decide +kernel
theorem dX10_nextSigns_24 : decode k_X10_nextSigns.2.1 24 = .ok (.aload_n 0, 1) := by decide +kernel
theorem dX10_nextSigns_25 : decode k_X10_nextSigns.2.1 25 = .ok (.getfield 147, 3) := by decide +kernel
theorem dX10_nextSigns_28 : decode k_X10_nextSigns.2.1 28 = .ok (.invokevirtual 153, 3) := by decide +kernel
theorem dX10_nextSigns_31 : decode k_X10_nextSigns.2.1 31 = .ok (.ireturn, 1) := by decide +kernel
theorem dX10_nextSigns_32 : decode k_X10_nextSigns.2.1 32 = .ok (.aload_n 0, 1) := by decide +kernel
theorem dX10_nextSigns_33 : decode k_X10_nextSigns.2.1 33 = .ok (.getfield 42, 3) := by decide +kernel
theorem dX10_nextSigns_36 : decode k_X10_nextSigns.2.1 36 = .ok (.aload_n 0, 1) := by decide +kernel
theorem dX10_nextSigns_37 : decode k_X10_nextSigns.2.1 37 = .ok (.getfield 147, 3) := by decide +kernel
theorem dX10_nextSigns_40 : decode k_X10_nextSigns.2.1 40 = .ok (.baload, 1) := by decide +kernel
theorem dX10_nextSigns_41 : decode k_X10_nextSigns.2.1 41 = .ok (.sipush 255, 3) := by decide +kernel
theorem dX10_nextSigns_44 : decode k_X10_nextSigns.2.1 44 = .ok (.iand, 1) := by decide +kernel
theorem dX10_nextSigns_45 : decode k_X10_nextSigns.2.1 45 = .ok (.istore 5, 2) := by decide +kernel
theorem dX10_nextSigns_47 : decode k_X10_nextSigns.2.1 47 = .ok (.iload 5, 2) := by decide +kernel
theorem dX10_nextSigns_49 : decode k_X10_nextSigns.2.1 49 = .ok (.bipush 86, 2) := by decide +kernel
theorem dX10_nextSigns_51 : decode k_X10_nextSigns.2.1 51 = .ok (.if_icmp .ge 20, 3) := by decide +kernel
theorem dX10_nextSigns_54 : decode k_X10_nextSigns.2.1 54 = .ok (.iload 5, 2) := by decide +kernel
theorem dX10_nextSigns_56 : decode k_X10_nextSigns.2.1 56 = .ok (.bipush 26, 2) := by decide +kernel
theorem dX10_nextSigns_58 : decode k_X10_nextSigns.2.1 58 = .ok (.if_icmp .lt 23, 3) := by decide +kernel
theorem dX10_nextSigns_61 : decode k_X10_nextSigns.2.1 61 = .ok (.aload_n 0, 1) := by decide +kernel
theorem dX10_nextSigns_62 : decode k_X10_nextSigns.2.1 62 = .ok (.getfield 30, 3) := by decide +kernel
theorem dX10_nextSigns_65 : decode k_X10_nextSigns.2.1 65 = .ok (.iload 5, 2) := by decide +kernel
theorem dX10_nextSigns_67 : decode k_X10_nextSigns.2.1 67 = .ok (.iaload, 1) := by decide +kernel
theorem dX10_nextSigns_68 : decode k_X10_nextSigns.2.1 68 = .ok (.ifCond .ne 13, 3) := by decide +kernel
theorem dX10_nextSigns_71 : decode k_X10_nextSigns.2.1 71 = .ok (.aload_n 0, 1) := by decide +kernel
theorem dX10_nextSigns_72 : decode k_X10_nextSigns.2.1 72 = .ok (.iconst 3, 1) := by decide +kernel
theorem dX10_nextSigns_73 : decode k_X10_nextSigns.2.1 73 = .ok (.aload_n 0, 1) := by decide +kernel
theorem dX10_nextSigns_74 : decode k_X10_nextSigns.2.1 74 = .ok (.getfield 147, 3) := by decide +kernel
theorem dX10_nextSigns_77 : decode k_X10_nextSigns.2.1 77 = .ok (.invokevirtual 153, 3) := by decide +kernel
theorem dX10_nextSigns_80 : decode k_X10_nextSigns.2.1 80 = .ok (.ireturn, 1) := by decide +kernel
theorem dX10_nextSigns_81 : decode k_X10_nextSigns.2.1 81 = .ok (.iload_n 3, 1) := by decide +kernel
theorem dX10_nextSigns_82 : decode k_X10_nextSigns.2.1 82 = .ok (.aload_n 0, 1) := by decide +kernel
theorem dX10_nextSigns_83 : decode k_X10_nextSigns.2.1 83 = .ok (.getfield 30, 3) := by decide +kernel
theorem dX10_nextSigns_86 : decode k_X10_nextSigns.2.1 86 = .ok (.iload 5, 2) := by decide +kernel
theorem dX10_nextSigns_88 : decode k_X10_nextSigns.2.1 88 = .ok (.iaload, 1) := by decide +kernel
theorem dX10_nextSigns_89 : decode k_X10_nextSigns.2.1 89 = .ok (.iadd, 1) := by decide +kernel
theorem dX10_nextSigns_90 : decode k_X10_nextSigns.2.1 90 = .ok (.istore_n 3, 1) := by decide +kernel
theorem dX10_nextSigns_91 : decode k_X10_nextSigns.2.1 91 = .ok (.iload_n 3, 1) := by decide +kernel
theorem dX10_nextSigns_92 : decode k_X10_nextSigns.2.1 92 = .ok (.sipush 240, 3) := by decide +kernel
theorem dX10_nextSigns_95 : decode k_X10_nextSigns.2.1 95 = .ok (.if_icmp .le 13, 3) := by decide +kernel
theorem dX10_nextSigns_98 : decode k_X10_nextSigns.2.1 98 = .ok (.aload_n 0, 1) := by decide +kernel
theorem dX10_nextSigns_99 : decode k_X10_nextSigns.2.1 99 = .ok (.iconst 4, 1) := by decide +kernel
theorem dX10_nextSigns_100 : decode k_X10_nextSigns.2.1 100 = .ok (.aload_n 0, 1) := by decide +kernel
theorem dX10_nextSigns_101 : decode k_X10_nextSigns.2.1 101 = .ok (.getfield 147, 3) := by decide +kernel
theorem dX10_nextSigns_104 : decode k_X10_nextSigns.2.1 104 = .ok (.invokevirtual 153, 3) := by decide +kernel
theorem dX10_nextSigns_107 : decode k_X10_nextSigns.2.1 107 = .ok (.ireturn, 1) := by decide +kernel
theorem dX10_nextSigns_108 : decode k_X10_nextSigns.2.1 108 = .ok (.aload_n 0, 1) := by decide +kernel
theorem dX10_nextSigns_109 : decode k_X10_nextSigns.2.1 109 = .ok (.getfield 52, 3) := by decide +kernel
theorem dX10_nextSigns_112 : decode k_X10_nextSigns.2.1 112 = .ok (.iload_n 1, 1) := by decide +kernel
theorem dX10_nextSigns_113 : decode k_X10_nextSigns.2.1 113 = .ok (.iload 4, 2) := by decide +kernel
theorem dX10_nextSigns_115 : decode k_X10_nextSigns.2.1 115 = .ok (.iadd, 1) := by decide +kernel
theorem dX10_nextSigns_116 : decode k_X10_nextSigns.2.1 116 = .ok (.iload 5, 2) := by decide +kernel
theorem dX10_nextSigns_118 : decode k_X10_nextSigns.2.1 118 = .ok (.iastore, 1) := by decide +kernel
theorem dX10_nextSigns_119 : decode k_X10_nextSigns.2.1 119 = .ok (.aload_n 0, 1) := by decide +kernel
theorem dX10_nextSigns_120 : decode k_X10_nextSigns.2.1 120 = .ok (.dup, 1) := by decide +kernel
theorem dX10_nextSigns_121 : decode k_X10_nextSigns.2.1 121 = .ok (.getfield 147, 3) := by decide +kernel
theorem dX10_nextSigns_124 : decode k_X10_nextSigns.2.1 124 = .ok (.iconst 1, 1) := by decide +kernel
theorem dX10_nextSigns_125 : decode k_X10_nextSigns.2.1 125 = .ok (.iadd, 1) := by decide +kernel
theorem dX10_nextSigns_126 : decode k_X10_nextSigns.2.1 126 = .ok (.putfield 147, 3) := by decide +kernel
theorem dX10_nextSigns_129 : decode k_X10_nextSigns.2.1 129 = .ok (.iinc 4 1, 3) := by decide +kernel
theorem dX10_nextSigns_132 : decode k_X10_nextSigns.2.1 132 = .ok (.goto (-127), 3) := by decide +kernel
theorem dX10_nextSigns_135 : decode k_X10_nextSigns.2.1 135 = .ok (.aload_n 0, 1) := by decide +kernel
theorem dX10_nextSigns_136 : decode k_X10_nextSigns.2.1 136 = .ok (.iload_n 3, 1) := by decide +kernel
theorem dX10_nextSigns_137 : decode k_X10_nextSigns.2.1 137 = .ok (.putfield 156, 3) := by decide +kernel
theorem dX10_nextSigns_140 : decode k_X10_nextSigns.2.1 140 = .ok (.iconst 0, 1) := by decide +kernel
theorem dX10_nextSigns_141 : decode k_X10_nextSigns.2.1 141 = .ok (.ireturn, 1) := by decide +kernel
theorem dX10_nextRule_0 : decode k_X10_nextRule.2.1 0 = .ok (.aload_n 0, 1) := by decide +kernel
theorem dX10_nextRule_1 : decode k_X10_nextRule.2.1 1 = .ok (.getfield 147, 3) := by decide +kernel
theorem dX10_nextRule_4 : decode k_X10_nextRule.2.1 4 = .ok (.aload_n 0, 1) := by decide +kernel
theorem dX10_nextRule_5 : decode k_X10_nextRule.2.1 5 = .ok (.getfield 150, 3) := by decide +kernel
theorem dX10_nextRule_8 : decode k_X10_nextRule.2.1 8 = .ok (.if_icmp .ne 13, 3) := by decide +kernel
theorem dX10_nextRule_11 : decode k_X10_nextRule.2.1 11 = .ok (.aload_n 0, 1) := by decide +kernel
theorem dX10_nextRule_12 : decode k_X10_nextRule.2.1 12 = .ok (.iconst 1, 1) := by decide +kernel
theorem dX10_nextRule_13 : decode k_X10_nextRule.2.1 13 = .ok (.aload_n 0, 1) := by decide +kernel
theorem dX10_nextRule_14 : decode k_X10_nextRule.2.1 14 = .ok (.getfield 147, 3) := by decide +kernel
theorem dX10_nextRule_17 : decode k_X10_nextRule.2.1 17 = .ok (.invokevirtual 153, 3) := by decide +kernel
theorem dX10_nextRule_20 : decode k_X10_nextRule.2.1 20 = .ok (.ireturn, 1) := by decide +kernel
theorem dX10_nextRule_21 : decode k_X10_nextRule.2.1 21 = .ok (.aload_n 0, 1) := by decide +kernel
theorem dX10_nextRule_22 : decode k_X10_nextRule.2.1 22 = .ok (.getfield 42, 3) := by decide +kernel
theorem dX10_nextRule_25 : decode k_X10_nextRule.2.1 25 = .ok (.aload_n 0, 1) := by decide +kernel
theorem dX10_nextRule_26 : decode k_X10_nextRule.2.1 26 = .ok (.getfield 147, 3) := by decide +kernel
theorem dX10_nextRule_29 : decode k_X10_nextRule.2.1 29 = .ok (.baload, 1) := by decide +kernel
theorem dX10_nextRule_30 : decode k_X10_nextRule.2.1 30 = .ok (.sipush 255, 3) := by decide +kernel
theorem dX10_nextRule_33 : decode k_X10_nextRule.2.1 33 = .ok (.iand, 1) := by decide +kernel
theorem dX10_nextRule_34 : decode k_X10_nextRule.2.1 34 = .ok (.istore_n 1, 1) := by decide +kernel
theorem dX10_nextRule_35 : decode k_X10_nextRule.2.1 35 = .ok (.iload_n 1, 1) := by decide +kernel
theorem dX10_nextRule_36 : decode k_X10_nextRule.2.1 36 = .ok (.i2l, 1) := by decide +kernel
theorem dX10_nextRule_37 : decode k_X10_nextRule.2.1 37 = .ok (.ldc2_w 102, 3) := by decide +kernel
theorem dX10_nextRule_40 : decode k_X10_nextRule.2.1 40 = .ok (.ldc2_w 104, 3) := by decide +kernel
theorem dX10_nextRule_43 : decode k_X10_nextRule.2.1 43 = .ok (.invokestatic 98, 3) := by decide +kernel
theorem dX10_nextRule_46 : decode k_X10_nextRule.2.1 46 = .ok (.ifCond .ne 13, 3) := by decide +kernel
theorem dX10_nextRule_49 : decode k_X10_nextRule.2.1 49 = .ok (.aload_n 0, 1) := by decide +kernel
theorem dX10_nextRule_50 : decode k_X10_nextRule.2.1 50 = .ok (.iconst 2, 1) := by decide +kernel
theorem dX10_nextRule_51 : decode k_X10_nextRule.2.1 51 = .ok (.aload_n 0, 1) := by decide +kernel
theorem dX10_nextRule_52 : decode k_X10_nextRule.2.1 52 = .ok (.getfield 147, 3) := by decide +kernel
theorem dX10_nextRule_55 : decode k_X10_nextRule.2.1 55 = .ok (.invokevirtual 153, 3) := by decide +kernel
theorem dX10_nextRule_58 : decode k_X10_nextRule.2.1 58 = .ok (.ireturn, 1) := by decide +kernel
theorem dX10_nextRule_59 : decode k_X10_nextRule.2.1 59 = .ok (.aload_n 0, 1) := by decide +kernel
theorem dX10_nextRule_60 : decode k_X10_nextRule.2.1 60 = .ok (.getfield 30, 3) := by decide +kernel
theorem dX10_nextRule_63 : decode k_X10_nextRule.2.1 63 = .ok (.iload_n 1, 1) := by decide +kernel
theorem dX10_nextRule_64 : decode k_X10_nextRule.2.1 64 = .ok (.iaload, 1) := by decide +kernel
theorem dX10_nextRule_65 : decode k_X10_nextRule.2.1 65 = .ok (.ifCond .le 13, 3) := by decide +kernel
theorem dX10_nextRule_68 : decode k_X10_nextRule.2.1 68 = .ok (.aload_n 0, 1) := by decide +kernel
theorem dX10_nextRule_69 : decode k_X10_nextRule.2.1 69 = .ok (.iconst 3, 1) := by decide +kernel
theorem dX10_nextRule_70 : decode k_X10_nextRule.2.1 70 = .ok (.aload_n 0, 1) := by decide +kernel
theorem dX10_nextRule_71 : decode k_X10_nextRule.2.1 71 = .ok (.getfield 147, 3) := by decide +kernel
theorem dX10_nextRule_74 : decode k_X10_nextRule.2.1 74 = .ok (.invokevirtual 153, 3) := by decide +kernel
theorem dX10_nextRule_77 : decode k_X10_nextRule.2.1 77 = .ok (.ireturn, 1) := by decide +kernel
theorem dX10_nextRule_78 : decode k_X10_nextRule.2.1 78 = .ok (.aload_n 0, 1) := by decide +kernel
theorem dX10_nextRule_79 : decode k_X10_nextRule.2.1 79 = .ok (.dup, 1) := by decide +kernel
theorem dX10_nextRule_80 : decode k_X10_nextRule.2.1 80 = .ok (.getfield 147, 3) := by decide +kernel
theorem dX10_nextRule_83 : decode k_X10_nextRule.2.1 83 = .ok (.iconst 1, 1) := by decide +kernel
theorem dX10_nextRule_84 : decode k_X10_nextRule.2.1 84 = .ok (.iadd, 1) := by decide +kernel
theorem dX10_nextRule_85 : decode k_X10_nextRule.2.1 85 = .ok (.putfield 147, 3) := by decide +kernel
theorem dX10_nextRule_88 : decode k_X10_nextRule.2.1 88 = .ok (.aload_n 0, 1) := by decide +kernel
theorem dX10_nextRule_89 : decode k_X10_nextRule.2.1 89 = .ok (.iconst 2, 1) := by decide +kernel
theorem dX10_nextRule_90 : decode k_X10_nextRule.2.1 90 = .ok (.bipush 12, 2) := by decide +kernel
theorem dX10_nextRule_92 : decode k_X10_nextRule.2.1 92 = .ok (.invokevirtual 159, 3) := by decide +kernel
theorem dX10_nextRule_95 : decode k_X10_nextRule.2.1 95 = .ok (.istore_n 2, 1) := by decide +kernel
theorem dX10_nextRule_96 : decode k_X10_nextRule.2.1 96 = .ok (.iload_n 2, 1) := by decide +kernel
theorem dX10_nextRule_97 : decode k_X10_nextRule.2.1 97 = .ok (.ifCond .ge 5, 3) := by decide +kernel
theorem dX10_nextRule_100 : decode k_X10_nextRule.2.1 100 = .ok (.iload_n 2, 1) := by decide +kernel
theorem dX10_nextRule_101 : decode k_X10_nextRule.2.1 101 = .ok (.ireturn, 1) := by decide +kernel
theorem dX10_nextRule_102 : decode k_X10_nextRule.2.1 102 = .ok (.aload_n 0, 1) := by decide +kernel
theorem dX10_nextRule_103 : decode k_X10_nextRule.2.1 103 = .ok (.iload_n 1, 1) := by decide +kernel
theorem dX10_nextRule_104 : decode k_X10_nextRule.2.1 104 = .ok (.invokestatic 92, 3) := by decide +kernel
theorem dX10_nextRule_107 : decode k_X10_nextRule.2.1 107 = .ok (.iconst 1, 1) := by decide +kernel
theorem dX10_nextRule_108 : decode k_X10_nextRule.2.1 108 = .ok (.iadd, 1) := by decide +kernel
theorem dX10_nextRule_109 : decode k_X10_nextRule.2.1 109 = .ok (.iload_n 2, 1) := by decide +kernel
theorem dX10_nextRule_110 : decode k_X10_nextRule.2.1 110 = .ok (.invokevirtual 162, 3) := by decide +kernel
theorem dX10_nextRule_113 : decode k_X10_nextRule.2.1 113 = .ok (.istore_n 3, 1) := by decide +kernel
theorem dX10_nextRule_114 : decode k_X10_nextRule.2.1 114 = .ok (.iload_n 3, 1) := by decide +kernel
theorem dX10_nextRule_115 : decode k_X10_nextRule.2.1 115 = .ok (.ifCond .ge 5, 3) := by decide +kernel
theorem dX10_nextRule_118 : decode k_X10_nextRule.2.1 118 = .ok (.iload_n 3, 1) := by decide +kernel
theorem dX10_nextRule_119 : decode k_X10_nextRule.2.1 119 = .ok (.ireturn, 1) := by decide +kernel
theorem dX10_nextRule_120 : decode k_X10_nextRule.2.1 120 = .ok (.aload_n 0, 1) := by decide +kernel
theorem dX10_nextRule_121 : decode k_X10_nextRule.2.1 121 = .ok (.getfield 52, 3) := by decide +kernel
theorem dX10_nextRule_124 : decode k_X10_nextRule.2.1 124 = .ok (.iload_n 1, 1) := by decide +kernel
theorem dX10_nextRule_125 : decode k_X10_nextRule.2.1 125 = .ok (.invokestatic 92, 3) := by decide +kernel
theorem dX10_nextRule_128 : decode k_X10_nextRule.2.1 128 = .ok (.iload_n 2, 1) := by decide +kernel
theorem dX10_nextRule_129 : decode k_X10_nextRule.2.1 129 = .ok (.iastore, 1) := by decide +kernel
theorem dX10_nextRule_130 : decode k_X10_nextRule.2.1 130 = .ok (.aload_n 0, 1) := by decide +kernel
theorem dX10_nextRule_131 : decode k_X10_nextRule.2.1 131 = .ok (.getfield 30, 3) := by decide +kernel
theorem dX10_nextRule_134 : decode k_X10_nextRule.2.1 134 = .ok (.iload_n 1, 1) := by decide +kernel
theorem dX10_nextRule_135 : decode k_X10_nextRule.2.1 135 = .ok (.aload_n 0, 1) := by decide +kernel
theorem dX10_nextRule_136 : decode k_X10_nextRule.2.1 136 = .ok (.getfield 156, 3) := by decide +kernel
theorem dX10_nextRule_139 : decode k_X10_nextRule.2.1 139 = .ok (.iastore, 1) := by decide +kernel
theorem dX10_nextRule_140 : decode k_X10_nextRule.2.1 140 = .ok (.iconst 0, 1) := by decide +kernel
theorem dX10_nextRule_141 : decode k_X10_nextRule.2.1 141 = .ok (.ireturn, 1) := by decide +kernel
theorem dX10_readsForm_0 : decode k_X10_readsForm.2.1 0 = .ok (.iconst 0, 1) := by decide +kernel
theorem dX10_readsForm_1 : decode k_X10_readsForm.2.1 1 = .ok (.istore_n 1, 1) := by decide +kernel
theorem dX10_readsForm_2 : decode k_X10_readsForm.2.1 2 = .ok (.iload_n 1, 1) := by decide +kernel
theorem dX10_readsForm_3 : decode k_X10_readsForm.2.1 3 = .ok (.sipush 1021, 3) := by decide +kernel
theorem dX10_readsForm_6 : decode k_X10_readsForm.2.1 6 = .ok (.if_icmp .ge 16, 3) := by decide +kernel
theorem dX10_readsForm_9 : decode k_X10_readsForm.2.1 9 = .ok (.aload_n 0, 1) := by decide +kernel
theorem dX10_readsForm_10 : decode k_X10_readsForm.2.1 10 = .ok (.getfield 52, 3) := by decide +kernel
theorem dX10_readsForm_13 : decode k_X10_readsForm.2.1 13 = .ok (.iload_n 1, 1) := by decide +kernel
theorem dX10_readsForm_14 : decode k_X10_readsForm.2.1 14 = .ok (.iconst 0, 1) := by decide +kernel
theorem dX10_readsForm_15 : decode k_X10_readsForm.2.1 15 = .ok (.iastore, 1) := by decide +kernel
theorem dX10_readsForm_16 : decode k_X10_readsForm.2.1 16 = .ok (.iinc 1 1, 3) := by decide +kernel
theorem dX10_readsForm_19 : decode k_X10_readsForm.2.1 19 = .ok (.goto (-17), 3) := by decide +kernel
theorem dX10_readsForm_22 : decode k_X10_readsForm.2.1 22 = .ok (.iconst 0, 1) := by decide +kernel
theorem dX10_readsForm_23 : decode k_X10_readsForm.2.1 23 = .ok (.istore_n 1, 1) := by decide +kernel
theorem dX10_readsForm_24 : decode k_X10_readsForm.2.1 24 = .ok (.iload_n 1, 1) := by decide +kernel
theorem dX10_readsForm_25 : decode k_X10_readsForm.2.1 25 = .ok (.bipush 86, 2) := by decide +kernel
theorem dX10_readsForm_27 : decode k_X10_readsForm.2.1 27 = .ok (.if_icmp .ge 26, 3) := by decide +kernel
theorem dX10_readsForm_30 : decode k_X10_readsForm.2.1 30 = .ok (.aload_n 0, 1) := by decide +kernel
theorem dX10_readsForm_31 : decode k_X10_readsForm.2.1 31 = .ok (.getfield 30, 3) := by decide +kernel
theorem dX10_readsForm_34 : decode k_X10_readsForm.2.1 34 = .ok (.iload_n 1, 1) := by decide +kernel
theorem dX10_readsForm_35 : decode k_X10_readsForm.2.1 35 = .ok (.iload_n 1, 1) := by decide +kernel
theorem dX10_readsForm_36 : decode k_X10_readsForm.2.1 36 = .ok (.bipush 26, 2) := by decide +kernel
theorem dX10_readsForm_38 : decode k_X10_readsForm.2.1 38 = .ok (.if_icmp .ge 7, 3) := by decide +kernel
theorem dX10_readsForm_41 : decode k_X10_readsForm.2.1 41 = .ok (.iconst 1, 1) := by decide +kernel
theorem dX10_readsForm_42 : decode k_X10_readsForm.2.1 42 = .ok (.goto 4, 3) := by decide +kernel
theorem dX10_readsForm_45 : decode k_X10_readsForm.2.1 45 = .ok (.iconst 0, 1) := by decide +kernel
theorem dX10_readsForm_46 : decode k_X10_readsForm.2.1 46 = .ok (.iastore, 1) := by decide +kernel
theorem dX10_readsForm_47 : decode k_X10_readsForm.2.1 47 = .ok (.iinc 1 1, 3) := by decide +kernel
theorem dX10_readsForm_50 : decode k_X10_readsForm.2.1 50 = .ok (.goto (-26), 3) := by decide +kernel
theorem dX10_readsForm_53 : decode k_X10_readsForm.2.1 53 = .ok (.aload_n 0, 1) := by decide +kernel
theorem dX10_readsForm_54 : decode k_X10_readsForm.2.1 54 = .ok (.iconst 0, 1) := by decide +kernel
theorem dX10_readsForm_55 : decode k_X10_readsForm.2.1 55 = .ok (.putfield 147, 3) := by decide +kernel
theorem dX10_readsForm_58 : decode k_X10_readsForm.2.1 58 = .ok (.aload_n 0, 1) := by decide +kernel
theorem dX10_readsForm_59 : decode k_X10_readsForm.2.1 59 = .ok (.iconst 0, 1) := by decide +kernel
theorem dX10_readsForm_60 : decode k_X10_readsForm.2.1 60 = .ok (.bipush 60, 2) := by decide +kernel
theorem dX10_readsForm_62 : decode k_X10_readsForm.2.1 62 = .ok (.invokevirtual 159, 3) := by decide +kernel
theorem dX10_readsForm_65 : decode k_X10_readsForm.2.1 65 = .ok (.istore_n 1, 1) := by decide +kernel
theorem dX10_readsForm_66 : decode k_X10_readsForm.2.1 66 = .ok (.iload_n 1, 1) := by decide +kernel
theorem dX10_readsForm_67 : decode k_X10_readsForm.2.1 67 = .ok (.ifCond .ge 5, 3) := by decide +kernel
theorem dX10_readsForm_70 : decode k_X10_readsForm.2.1 70 = .ok (.iload_n 1, 1) := by decide +kernel
theorem dX10_readsForm_71 : decode k_X10_readsForm.2.1 71 = .ok (.ireturn, 1) := by decide +kernel
theorem dX10_readsForm_72 : decode k_X10_readsForm.2.1 72 = .ok (.iconst 0, 1) := by decide +kernel
theorem dX10_readsForm_73 : decode k_X10_readsForm.2.1 73 = .ok (.istore_n 2, 1) := by decide +kernel
theorem dX10_readsForm_74 : decode k_X10_readsForm.2.1 74 = .ok (.iload_n 2, 1) := by decide +kernel
theorem dX10_readsForm_75 : decode k_X10_readsForm.2.1 75 = .ok (.iload_n 1, 1) := by decide +kernel
theorem dX10_readsForm_76 : decode k_X10_readsForm.2.1 76 = .ok (.if_icmp .ge 20, 3) := by decide +kernel
theorem dX10_readsForm_79 : decode k_X10_readsForm.2.1 79 = .ok (.aload_n 0, 1) := by decide +kernel
theorem dX10_readsForm_80 : decode k_X10_readsForm.2.1 80 = .ok (.invokevirtual 165, 3) := by decide +kernel
theorem dX10_readsForm_83 : decode k_X10_readsForm.2.1 83 = .ok (.istore_n 3, 1) := by decide +kernel
theorem dX10_readsForm_84 : decode k_X10_readsForm.2.1 84 = .ok (.iload_n 3, 1) := by decide +kernel
theorem dX10_readsForm_85 : decode k_X10_readsForm.2.1 85 = .ok (.ifCond .ge 5, 3) := by decide +kernel
theorem dX10_readsForm_88 : decode k_X10_readsForm.2.1 88 = .ok (.iload_n 3, 1) := by decide +kernel
theorem dX10_readsForm_89 : decode k_X10_readsForm.2.1 89 = .ok (.ireturn, 1) := by decide +kernel
theorem dX10_readsForm_90 : decode k_X10_readsForm.2.1 90 = .ok (.iinc 2 1, 3) := by decide +kernel
theorem dX10_readsForm_93 : decode k_X10_readsForm.2.1 93 = .ok (.goto (-19), 3) := by decide +kernel
theorem dX10_readsForm_96 : decode k_X10_readsForm.2.1 96 = .ok (.aload_n 0, 1) := by decide +kernel
theorem dX10_readsForm_97 : decode k_X10_readsForm.2.1 97 = .ok (.iconst 0, 1) := by decide +kernel
theorem dX10_readsForm_98 : decode k_X10_readsForm.2.1 98 = .ok (.sipush 240, 3) := by decide +kernel
theorem dX10_readsForm_101 : decode k_X10_readsForm.2.1 101 = .ok (.invokevirtual 159, 3) := by decide +kernel
theorem dX10_readsForm_104 : decode k_X10_readsForm.2.1 104 = .ok (.istore_n 2, 1) := by decide +kernel
theorem dX10_readsForm_105 : decode k_X10_readsForm.2.1 105 = .ok (.iload_n 2, 1) := by decide +kernel
theorem dX10_readsForm_106 : decode k_X10_readsForm.2.1 106 = .ok (.ifCond .ge 5, 3) := by decide +kernel
theorem dX10_readsForm_109 : decode k_X10_readsForm.2.1 109 = .ok (.iload_n 2, 1) := by decide +kernel
theorem dX10_readsForm_110 : decode k_X10_readsForm.2.1 110 = .ok (.ireturn, 1) := by decide +kernel
theorem dX10_readsForm_111 : decode k_X10_readsForm.2.1 111 = .ok (.aload_n 0, 1) := by decide +kernel
theorem dX10_readsForm_112 : decode k_X10_readsForm.2.1 112 = .ok (.iconst 1, 1) := by decide +kernel
theorem dX10_readsForm_113 : decode k_X10_readsForm.2.1 113 = .ok (.iload_n 2, 1) := by decide +kernel
theorem dX10_readsForm_114 : decode k_X10_readsForm.2.1 114 = .ok (.invokevirtual 162, 3) := by decide +kernel
theorem dX10_readsForm_117 : decode k_X10_readsForm.2.1 117 = .ok (.istore_n 3, 1) := by decide +kernel
theorem dX10_readsForm_118 : decode k_X10_readsForm.2.1 118 = .ok (.iload_n 3, 1) := by decide +kernel
theorem dX10_readsForm_119 : decode k_X10_readsForm.2.1 119 = .ok (.ifCond .ge 5, 3) := by decide +kernel
theorem dX10_readsForm_122 : decode k_X10_readsForm.2.1 122 = .ok (.iload_n 3, 1) := by decide +kernel
theorem dX10_readsForm_123 : decode k_X10_readsForm.2.1 123 = .ok (.ireturn, 1) := by decide +kernel
theorem dX10_readsForm_124 : decode k_X10_readsForm.2.1 124 = .ok (.aload_n 0, 1) := by decide +kernel
theorem dX10_readsForm_125 : decode k_X10_readsForm.2.1 125 = .ok (.getfield 52, 3) := by decide +kernel
theorem dX10_readsForm_128 : decode k_X10_readsForm.2.1 128 = .ok (.iconst 0, 1) := by decide +kernel
theorem dX10_readsForm_129 : decode k_X10_readsForm.2.1 129 = .ok (.iload_n 2, 1) := by decide +kernel
theorem dX10_readsForm_130 : decode k_X10_readsForm.2.1 130 = .ok (.iastore, 1) := by decide +kernel
theorem dX10_readsForm_131 : decode k_X10_readsForm.2.1 131 = .ok (.aload_n 0, 1) := by decide +kernel
theorem dX10_readsForm_132 : decode k_X10_readsForm.2.1 132 = .ok (.getfield 147, 3) := by decide +kernel
theorem dX10_readsForm_135 : decode k_X10_readsForm.2.1 135 = .ok (.aload_n 0, 1) := by decide +kernel
theorem dX10_readsForm_136 : decode k_X10_readsForm.2.1 136 = .ok (.getfield 150, 3) := by decide +kernel
theorem dX10_readsForm_139 : decode k_X10_readsForm.2.1 139 = .ok (.if_icmp .ge 15, 3) := by decide +kernel
theorem dX10_readsForm_142 : decode k_X10_readsForm.2.1 142 = .ok (.aload_n 0, 1) := by decide +kernel
theorem dX10_readsForm_143 : decode k_X10_readsForm.2.1 143 = .ok (.iconst 1, 1) := by decide +kernel
theorem dX10_readsForm_144 : decode k_X10_readsForm.2.1 144 = .ok (.aload_n 0, 1) := by decide +kernel
theorem dX10_readsForm_145 : decode k_X10_readsForm.2.1 145 = .ok (.getfield 147, 3) := by decide +kernel
theorem dX10_readsForm_148 : decode k_X10_readsForm.2.1 148 = .ok (.invokevirtual 153, 3) := by decide +kernel
theorem dX10_readsForm_151 : decode k_X10_readsForm.2.1 151 = .ok (.goto 4, 3) := by decide +kernel
theorem dX10_readsForm_154 : decode k_X10_readsForm.2.1 154 = .ok (.iconst 0, 1) := by decide +kernel
theorem dX10_readsForm_155 : decode k_X10_readsForm.2.1 155 = .ok (.ireturn, 1) := by decide +kernel
theorem dX10_load_0 : decode k_X10_load.2.1 0 = .ok (.aload_n 0, 1) := by decide +kernel
theorem dX10_load_1 : decode k_X10_load.2.1 1 = .ok (.iconst 0, 1) := by decide +kernel
theorem dX10_load_2 : decode k_X10_load.2.1 2 = .ok (.putfield 1, 3) := by decide +kernel
theorem dX10_load_5 : decode k_X10_load.2.1 5 = .ok (.iload_n 1, 1) := by decide +kernel
theorem dX10_load_6 : decode k_X10_load.2.1 6 = .ok (.i2l, 1) := by decide +kernel
theorem dX10_load_7 : decode k_X10_load.2.1 7 = .ok (.lconst 0, 1) := by decide +kernel
theorem dX10_load_8 : decode k_X10_load.2.1 8 = .ok (.aload_n 0, 1) := by decide +kernel
theorem dX10_load_9 : decode k_X10_load.2.1 9 = .ok (.getfield 137, 3) := by decide +kernel
theorem dX10_load_12 : decode k_X10_load.2.1 12 = .ok (.i2l, 1) := by decide +kernel
theorem dX10_load_13 : decode k_X10_load.2.1 13 = .ok (.invokestatic 98, 3) := by decide +kernel
theorem dX10_load_16 : decode k_X10_load.2.1 16 = .ok (.ifCond .ne 6, 3) := by decide +kernel
theorem dX10_load_19 : decode k_X10_load.2.1 19 = .ok (.bipush (-3), 2) := by decide +kernel
theorem dX10_load_21 : decode k_X10_load.2.1 21 = .ok (.ireturn, 1) := by decide +kernel
theorem dX10_load_22 : decode k_X10_load.2.1 22 = .ok (.aload_n 0, 1) := by decide +kernel
theorem dX10_load_23 : decode k_X10_load.2.1 23 = .ok (.iconst 0, 1) := by decide +kernel
theorem dX10_load_24 : decode k_X10_load.2.1 24 = .ok (.putfield 137, 3) := by decide +kernel
theorem dX10_load_27 : decode k_X10_load.2.1 27 = .ok (.aload_n 0, 1) := by decide +kernel
theorem dX10_load_28 : decode k_X10_load.2.1 28 = .ok (.iconst 0, 1) := by decide +kernel
theorem dX10_load_29 : decode k_X10_load.2.1 29 = .ok (.putfield 140, 3) := by decide +kernel
theorem dX10_load_32 : decode k_X10_load.2.1 32 = .ok (.aload_n 0, 1) := by decide +kernel
theorem dX10_load_33 : decode k_X10_load.2.1 33 = .ok (.iconst (-1), 1) := by decide +kernel
theorem dX10_load_34 : decode k_X10_load.2.1 34 = .ok (.putfield 46, 3) := by decide +kernel
theorem dX10_load_37 : decode k_X10_load.2.1 37 = .ok (.aload_n 0, 1) := by decide +kernel
theorem dX10_load_38 : decode k_X10_load.2.1 38 = .ok (.iload_n 1, 1) := by decide +kernel
theorem dX10_load_39 : decode k_X10_load.2.1 39 = .ok (.putfield 150, 3) := by decide +kernel
theorem dX10_load_42 : decode k_X10_load.2.1 42 = .ok (.aload_n 0, 1) := by decide +kernel
theorem dX10_load_43 : decode k_X10_load.2.1 43 = .ok (.invokevirtual 168, 3) := by decide +kernel
theorem dX10_load_46 : decode k_X10_load.2.1 46 = .ok (.istore_n 2, 1) := by decide +kernel
theorem dX10_load_47 : decode k_X10_load.2.1 47 = .ok (.iload_n 2, 1) := by decide +kernel
theorem dX10_load_48 : decode k_X10_load.2.1 48 = .ok (.ifCond .ge 5, 3) := by decide +kernel
theorem dX10_load_51 : decode k_X10_load.2.1 51 = .ok (.iload_n 2, 1) := by decide +kernel
theorem dX10_load_52 : decode k_X10_load.2.1 52 = .ok (.ireturn, 1) := by decide +kernel
theorem dX10_load_53 : decode k_X10_load.2.1 53 = .ok (.aload_n 0, 1) := by decide +kernel
theorem dX10_load_54 : decode k_X10_load.2.1 54 = .ok (.invokevirtual 171, 3) := by decide +kernel
theorem dX10_load_57 : decode k_X10_load.2.1 57 = .ok (.aload_n 0, 1) := by decide +kernel
theorem dX10_load_58 : decode k_X10_load.2.1 58 = .ok (.getfield 52, 3) := by decide +kernel
theorem dX10_load_61 : decode k_X10_load.2.1 61 = .ok (.iconst 0, 1) := by decide +kernel
theorem dX10_load_62 : decode k_X10_load.2.1 62 = .ok (.aload_n 0, 1) := by decide +kernel
theorem dX10_load_63 : decode k_X10_load.2.1 63 = .ok (.getfield 13, 3) := by decide +kernel
theorem dX10_load_66 : decode k_X10_load.2.1 66 = .ok (.iconst 0, 1) := by decide +kernel
theorem dX10_load_67 : decode k_X10_load.2.1 67 = .ok (.sipush 1021, 3) := by decide +kernel
theorem dX10_load_70 : decode k_X10_load.2.1 70 = .ok (.invokestatic 88, 3) := by decide +kernel
theorem dX10_load_73 : decode k_X10_load.2.1 73 = .ok (.aload_n 0, 1) := by decide +kernel
theorem dX10_load_74 : decode k_X10_load.2.1 74 = .ok (.invokevirtual 174, 3) := by decide +kernel
theorem dX10_load_77 : decode k_X10_load.2.1 77 = .ok (.ireturn, 1) := by decide +kernel
theorem dX10_tells_0 : decode k_X10_tells.2.1 0 = .ok (.aload_n 0, 1) := by decide +kernel
theorem dX10_tells_1 : decode k_X10_tells.2.1 1 = .ok (.getfield 55, 3) := by decide +kernel
theorem dX10_tells_4 : decode k_X10_tells.2.1 4 = .ok (.aload_n 0, 1) := by decide +kernel
theorem dX10_tells_5 : decode k_X10_tells.2.1 5 = .ok (.getfield 177, 3) := by decide +kernel
theorem dX10_tells_8 : decode k_X10_tells.2.1 8 = .ok (.iload_n 1, 1) := by decide +kernel
theorem dX10_tells_9 : decode k_X10_tells.2.1 9 = .ok (.iastore, 1) := by decide +kernel
theorem dX10_tells_10 : decode k_X10_tells.2.1 10 = .ok (.aload_n 0, 1) := by decide +kernel
theorem dX10_tells_11 : decode k_X10_tells.2.1 11 = .ok (.dup, 1) := by decide +kernel
theorem dX10_tells_12 : decode k_X10_tells.2.1 12 = .ok (.getfield 177, 3) := by decide +kernel
theorem dX10_tells_15 : decode k_X10_tells.2.1 15 = .ok (.iconst 1, 1) := by decide +kernel
theorem dX10_tells_16 : decode k_X10_tells.2.1 16 = .ok (.iadd, 1) := by decide +kernel
theorem dX10_tells_17 : decode k_X10_tells.2.1 17 = .ok (.putfield 177, 3) := by decide +kernel
theorem dX10_tells_20 : decode k_X10_tells.2.1 20 = .ok (.return_, 1) := by decide +kernel
theorem dX10_nextTold_0 : decode k_X10_nextTold.2.1 0 = .ok (.bipush 26, 2) := by decide +kernel
theorem dX10_nextTold_2 : decode k_X10_nextTold.2.1 2 = .ok (.istore_n 1, 1) := by decide +kernel
theorem dX10_nextTold_3 : decode k_X10_nextTold.2.1 3 = .ok (.iload_n 1, 1) := by decide +kernel
theorem dX10_nextTold_4 : decode k_X10_nextTold.2.1 4 = .ok (.bipush 86, 2) := by decide +kernel
theorem dX10_nextTold_6 : decode k_X10_nextTold.2.1 6 = .ok (.if_icmp .ge 71, 3) := by decide +kernel
theorem dX10_nextTold_9 : decode k_X10_nextTold.2.1 9 = .ok (.aload_n 0, 1) := by decide +kernel
theorem dX10_nextTold_10 : decode k_X10_nextTold.2.1 10 = .ok (.iload_n 1, 1) := by decide +kernel
theorem dX10_nextTold_11 : decode k_X10_nextTold.2.1 11 = .ok (.invokevirtual 106, 3) := by decide +kernel
theorem dX10_nextTold_14 : decode k_X10_nextTold.2.1 14 = .ok (.ifCond .le 16, 3) := by decide +kernel
theorem dX10_nextTold_17 : decode k_X10_nextTold.2.1 17 = .ok (.aload_n 0, 1) := by decide +kernel
theorem dX10_nextTold_18 : decode k_X10_nextTold.2.1 18 = .ok (.getfield 58, 3) := by decide +kernel
theorem dX10_nextTold_21 : decode k_X10_nextTold.2.1 21 = .ok (.iload_n 1, 1) := by decide +kernel
theorem dX10_nextTold_22 : decode k_X10_nextTold.2.1 22 = .ok (.baload, 1) := by decide +kernel
theorem dX10_nextTold_23 : decode k_X10_nextTold.2.1 23 = .ok (.ifCond .ne 7, 3) := by decide +kernel
theorem dX10_nextTold_26 : decode k_X10_nextTold.2.1 26 = .ok (.iconst 1, 1) := by decide +kernel
theorem dX10_nextTold_27 : decode k_X10_nextTold.2.1 27 = .ok (.goto 4, 3) := by decide +kernel
theorem dX10_nextTold_30 : decode k_X10_nextTold.2.1 30 = .ok (.iconst 0, 1) := by decide +kernel
theorem dX10_nextTold_31 : decode k_X10_nextTold.2.1 31 = .ok (.istore_n 2, 1) := by decide +kernel
theorem dX10_nextTold_32 : decode k_X10_nextTold.2.1 32 = .ok (.iconst 0, 1) := by decide +kernel
theorem dX10_nextTold_33 : decode k_X10_nextTold.2.1 33 = .ok (.istore_n 3, 1) := by decide +kernel
theorem dX10_nextTold_34 : decode k_X10_nextTold.2.1 34 = .ok (.iload_n 3, 1) := by decide +kernel
theorem dX10_nextTold_35 : decode k_X10_nextTold.2.1 35 = .ok (.aload_n 0, 1) := by decide +kernel
theorem dX10_nextTold_36 : decode k_X10_nextTold.2.1 36 = .ok (.iload_n 1, 1) := by decide +kernel
theorem dX10_nextTold_37 : decode k_X10_nextTold.2.1 37 = .ok (.invokevirtual 106, 3) := by decide +kernel
theorem dX10_nextTold_40 : decode k_X10_nextTold.2.1 40 = .ok (.if_icmp .ge 25, 3) := by decide +kernel
theorem dX10_nextTold_43 : decode k_X10_nextTold.2.1 43 = .ok (.iload_n 2, 1) := by decide +kernel
theorem dX10_nextTold_44 : decode k_X10_nextTold.2.1 44 = .ok (.ifCond .eq 21, 3) := by decide +kernel
theorem dX10_nextTold_47 : decode k_X10_nextTold.2.1 47 = .ok (.aload_n 0, 1) := by decide +kernel
theorem dX10_nextTold_48 : decode k_X10_nextTold.2.1 48 = .ok (.getfield 58, 3) := by decide +kernel
theorem dX10_nextTold_51 : decode k_X10_nextTold.2.1 51 = .ok (.aload_n 0, 1) := by decide +kernel
theorem dX10_nextTold_52 : decode k_X10_nextTold.2.1 52 = .ok (.iload_n 1, 1) := by decide +kernel
theorem dX10_nextTold_53 : decode k_X10_nextTold.2.1 53 = .ok (.iload_n 3, 1) := by decide +kernel
theorem dX10_nextTold_54 : decode k_X10_nextTold.2.1 54 = .ok (.invokevirtual 113, 3) := by decide +kernel
theorem dX10_nextTold_57 : decode k_X10_nextTold.2.1 57 = .ok (.baload, 1) := by decide +kernel
theorem dX10_nextTold_58 : decode k_X10_nextTold.2.1 58 = .ok (.istore_n 2, 1) := by decide +kernel
theorem dX10_nextTold_59 : decode k_X10_nextTold.2.1 59 = .ok (.iinc 3 1, 3) := by decide +kernel
theorem dX10_nextTold_62 : decode k_X10_nextTold.2.1 62 = .ok (.goto (-28), 3) := by decide +kernel
theorem dX10_nextTold_65 : decode k_X10_nextTold.2.1 65 = .ok (.iload_n 2, 1) := by decide +kernel
theorem dX10_nextTold_66 : decode k_X10_nextTold.2.1 66 = .ok (.ifCond .eq 5, 3) := by decide +kernel
theorem dX10_nextTold_69 : decode k_X10_nextTold.2.1 69 = .ok (.iload_n 1, 1) := by decide +kernel
theorem dX10_nextTold_70 : decode k_X10_nextTold.2.1 70 = .ok (.ireturn, 1) := by decide +kernel
theorem dX10_nextTold_71 : decode k_X10_nextTold.2.1 71 = .ok (.iinc 1 1, 3) := by decide +kernel
theorem dX10_nextTold_74 : decode k_X10_nextTold.2.1 74 = .ok (.goto (-71), 3) := by decide +kernel
theorem dX10_nextTold_77 : decode k_X10_nextTold.2.1 77 = .ok (.iconst (-1), 1) := by decide +kernel
theorem dX10_nextTold_78 : decode k_X10_nextTold.2.1 78 = .ok (.ireturn, 1) := by decide +kernel
theorem dX10_laysForm_0 : decode k_X10_laysForm.2.1 0 = .ok (.aload_n 0, 1) := by decide +kernel
theorem dX10_laysForm_1 : decode k_X10_laysForm.2.1 1 = .ok (.iconst 0, 1) := by decide +kernel
theorem dX10_laysForm_2 : decode k_X10_laysForm.2.1 2 = .ok (.putfield 177, 3) := by decide +kernel
theorem dX10_laysForm_5 : decode k_X10_laysForm.2.1 5 = .ok (.iconst 0, 1) := by decide +kernel
theorem dX10_laysForm_6 : decode k_X10_laysForm.2.1 6 = .ok (.istore_n 1, 1) := by decide +kernel
theorem dX10_laysForm_7 : decode k_X10_laysForm.2.1 7 = .ok (.iload_n 1, 1) := by decide +kernel
theorem dX10_laysForm_8 : decode k_X10_laysForm.2.1 8 = .ok (.bipush 86, 2) := by decide +kernel
theorem dX10_laysForm_10 : decode k_X10_laysForm.2.1 10 = .ok (.if_icmp .ge 26, 3) := by decide +kernel
theorem dX10_laysForm_13 : decode k_X10_laysForm.2.1 13 = .ok (.aload_n 0, 1) := by decide +kernel
theorem dX10_laysForm_14 : decode k_X10_laysForm.2.1 14 = .ok (.getfield 58, 3) := by decide +kernel
theorem dX10_laysForm_17 : decode k_X10_laysForm.2.1 17 = .ok (.iload_n 1, 1) := by decide +kernel
theorem dX10_laysForm_18 : decode k_X10_laysForm.2.1 18 = .ok (.iload_n 1, 1) := by decide +kernel
theorem dX10_laysForm_19 : decode k_X10_laysForm.2.1 19 = .ok (.bipush 26, 2) := by decide +kernel
theorem dX10_laysForm_21 : decode k_X10_laysForm.2.1 21 = .ok (.if_icmp .ge 7, 3) := by decide +kernel
theorem dX10_laysForm_24 : decode k_X10_laysForm.2.1 24 = .ok (.iconst 1, 1) := by decide +kernel
theorem dX10_laysForm_25 : decode k_X10_laysForm.2.1 25 = .ok (.goto 4, 3) := by decide +kernel
theorem dX10_laysForm_28 : decode k_X10_laysForm.2.1 28 = .ok (.iconst 0, 1) := by decide +kernel
theorem dX10_laysForm_29 : decode k_X10_laysForm.2.1 29 = .ok (.bastore, 1) := by decide +kernel
theorem dX10_laysForm_30 : decode k_X10_laysForm.2.1 30 = .ok (.iinc 1 1, 3) := by decide +kernel
theorem dX10_laysForm_33 : decode k_X10_laysForm.2.1 33 = .ok (.goto (-26), 3) := by decide +kernel
theorem dX10_laysForm_36 : decode k_X10_laysForm.2.1 36 = .ok (.aload_n 0, 1) := by decide +kernel
theorem dX10_laysForm_37 : decode k_X10_laysForm.2.1 37 = .ok (.aload_n 0, 1) := by decide +kernel
theorem dX10_laysForm_38 : decode k_X10_laysForm.2.1 38 = .ok (.invokevirtual 180, 3) := by decide +kernel
theorem dX10_laysForm_41 : decode k_X10_laysForm.2.1 41 = .ok (.invokevirtual 183, 3) := by decide +kernel
theorem dX10_laysForm_44 : decode k_X10_laysForm.2.1 44 = .ok (.aload_n 0, 1) := by decide +kernel
theorem dX10_laysForm_45 : decode k_X10_laysForm.2.1 45 = .ok (.invokevirtual 186, 3) := by decide +kernel
theorem dX10_laysForm_48 : decode k_X10_laysForm.2.1 48 = .ok (.istore_n 1, 1) := by decide +kernel
theorem dX10_laysForm_49 : decode k_X10_laysForm.2.1 49 = .ok (.iload_n 1, 1) := by decide +kernel
theorem dX10_laysForm_50 : decode k_X10_laysForm.2.1 50 = .ok (.iconst (-1), 1) := by decide +kernel
theorem dX10_laysForm_51 : decode k_X10_laysForm.2.1 51 = .ok (.if_icmp .eq 59, 3) := by decide +kernel
theorem dX10_laysForm_54 : decode k_X10_laysForm.2.1 54 = .ok (.aload_n 0, 1) := by decide +kernel
theorem dX10_laysForm_55 : decode k_X10_laysForm.2.1 55 = .ok (.iload_n 1, 1) := by decide +kernel
theorem dX10_laysForm_56 : decode k_X10_laysForm.2.1 56 = .ok (.invokevirtual 183, 3) := by decide +kernel
theorem dX10_laysForm_59 : decode k_X10_laysForm.2.1 59 = .ok (.aload_n 0, 1) := by decide +kernel
theorem dX10_laysForm_60 : decode k_X10_laysForm.2.1 60 = .ok (.aload_n 0, 1) := by decide +kernel
theorem dX10_laysForm_61 : decode k_X10_laysForm.2.1 61 = .ok (.iload_n 1, 1) := by decide +kernel
theorem dX10_laysForm_62 : decode k_X10_laysForm.2.1 62 = .ok (.invokevirtual 106, 3) := by decide +kernel
theorem dX10_laysForm_65 : decode k_X10_laysForm.2.1 65 = .ok (.invokevirtual 183, 3) := by decide +kernel
theorem dX10_laysForm_68 : decode k_X10_laysForm.2.1 68 = .ok (.iconst 0, 1) := by decide +kernel
theorem dX10_laysForm_69 : decode k_X10_laysForm.2.1 69 = .ok (.istore_n 2, 1) := by decide +kernel
theorem dX10_laysForm_70 : decode k_X10_laysForm.2.1 70 = .ok (.iload_n 2, 1) := by decide +kernel
theorem dX10_laysForm_71 : decode k_X10_laysForm.2.1 71 = .ok (.aload_n 0, 1) := by decide +kernel
theorem dX10_laysForm_72 : decode k_X10_laysForm.2.1 72 = .ok (.iload_n 1, 1) := by decide +kernel
theorem dX10_laysForm_73 : decode k_X10_laysForm.2.1 73 = .ok (.invokevirtual 106, 3) := by decide +kernel
theorem dX10_laysForm_76 : decode k_X10_laysForm.2.1 76 = .ok (.if_icmp .ge 19, 3) := by decide +kernel
theorem dX10_laysForm_79 : decode k_X10_laysForm.2.1 79 = .ok (.aload_n 0, 1) := by decide +kernel
theorem dX10_laysForm_80 : decode k_X10_laysForm.2.1 80 = .ok (.aload_n 0, 1) := by decide +kernel
theorem dX10_laysForm_81 : decode k_X10_laysForm.2.1 81 = .ok (.iload_n 1, 1) := by decide +kernel
theorem dX10_laysForm_82 : decode k_X10_laysForm.2.1 82 = .ok (.iload_n 2, 1) := by decide +kernel
theorem dX10_laysForm_83 : decode k_X10_laysForm.2.1 83 = .ok (.invokevirtual 113, 3) := by decide +kernel
theorem dX10_laysForm_86 : decode k_X10_laysForm.2.1 86 = .ok (.invokevirtual 183, 3) := by decide +kernel
theorem dX10_laysForm_89 : decode k_X10_laysForm.2.1 89 = .ok (.iinc 2 1, 3) := by decide +kernel
theorem dX10_laysForm_92 : decode k_X10_laysForm.2.1 92 = .ok (.goto (-22), 3) := by decide +kernel
theorem dX10_laysForm_95 : decode k_X10_laysForm.2.1 95 = .ok (.aload_n 0, 1) := by decide +kernel
theorem dX10_laysForm_96 : decode k_X10_laysForm.2.1 96 = .ok (.getfield 58, 3) := by decide +kernel
theorem dX10_laysForm_99 : decode k_X10_laysForm.2.1 99 = .ok (.iload_n 1, 1) := by decide +kernel
theorem dX10_laysForm_100 : decode k_X10_laysForm.2.1 100 = .ok (.iconst 1, 1) := by decide +kernel
theorem dX10_laysForm_101 : decode k_X10_laysForm.2.1 101 = .ok (.bastore, 1) := by decide +kernel
theorem dX10_laysForm_102 : decode k_X10_laysForm.2.1 102 = .ok (.aload_n 0, 1) := by decide +kernel
theorem dX10_laysForm_103 : decode k_X10_laysForm.2.1 103 = .ok (.invokevirtual 186, 3) := by decide +kernel
theorem dX10_laysForm_106 : decode k_X10_laysForm.2.1 106 = .ok (.istore_n 1, 1) := by decide +kernel
theorem dX10_laysForm_107 : decode k_X10_laysForm.2.1 107 = .ok (.goto (-58), 3) := by decide +kernel
theorem dX10_laysForm_110 : decode k_X10_laysForm.2.1 110 = .ok (.aload_n 0, 1) := by decide +kernel
theorem dX10_laysForm_111 : decode k_X10_laysForm.2.1 111 = .ok (.aload_n 0, 1) := by decide +kernel
theorem dX10_laysForm_112 : decode k_X10_laysForm.2.1 112 = .ok (.invokevirtual 123, 3) := by decide +kernel
theorem dX10_laysForm_115 : decode k_X10_laysForm.2.1 115 = .ok (.invokevirtual 183, 3) := by decide +kernel
theorem dX10_laysForm_118 : decode k_X10_laysForm.2.1 118 = .ok (.iconst 0, 1) := by decide +kernel
theorem dX10_laysForm_119 : decode k_X10_laysForm.2.1 119 = .ok (.istore_n 1, 1) := by decide +kernel
theorem dX10_laysForm_120 : decode k_X10_laysForm.2.1 120 = .ok (.iload_n 1, 1) := by decide +kernel
theorem dX10_laysForm_121 : decode k_X10_laysForm.2.1 121 = .ok (.aload_n 0, 1) := by decide +kernel
theorem dX10_laysForm_122 : decode k_X10_laysForm.2.1 122 = .ok (.invokevirtual 123, 3) := by decide +kernel
theorem dX10_laysForm_125 : decode k_X10_laysForm.2.1 125 = .ok (.if_icmp .ge 18, 3) := by decide +kernel
theorem dX10_laysForm_128 : decode k_X10_laysForm.2.1 128 = .ok (.aload_n 0, 1) := by decide +kernel
theorem dX10_laysForm_129 : decode k_X10_laysForm.2.1 129 = .ok (.aload_n 0, 1) := by decide +kernel
theorem dX10_laysForm_130 : decode k_X10_laysForm.2.1 130 = .ok (.iload_n 1, 1) := by decide +kernel
theorem dX10_laysForm_131 : decode k_X10_laysForm.2.1 131 = .ok (.invokevirtual 127, 3) := by decide +kernel
theorem dX10_laysForm_134 : decode k_X10_laysForm.2.1 134 = .ok (.invokevirtual 183, 3) := by decide +kernel
theorem dX10_laysForm_137 : decode k_X10_laysForm.2.1 137 = .ok (.iinc 1 1, 3) := by decide +kernel
theorem dX10_laysForm_140 : decode k_X10_laysForm.2.1 140 = .ok (.goto (-20), 3) := by decide +kernel
theorem dX10_laysForm_143 : decode k_X10_laysForm.2.1 143 = .ok (.return_, 1) := by decide +kernel
theorem dX10_form_0 : decode k_X10_form.2.1 0 = .ok (.aload_n 0, 1) := by decide +kernel
theorem dX10_form_1 : decode k_X10_form.2.1 1 = .ok (.iconst 0, 1) := by decide +kernel
theorem dX10_form_2 : decode k_X10_form.2.1 2 = .ok (.putfield 1, 3) := by decide +kernel
theorem dX10_form_5 : decode k_X10_form.2.1 5 = .ok (.iload_n 1, 1) := by decide +kernel
theorem dX10_form_6 : decode k_X10_form.2.1 6 = .ok (.ifCond .ge 6, 3) := by decide +kernel
theorem dX10_form_9 : decode k_X10_form.2.1 9 = .ok (.bipush (-3), 2) := by decide +kernel
theorem dX10_form_11 : decode k_X10_form.2.1 11 = .ok (.ireturn, 1) := by decide +kernel
theorem dX10_form_12 : decode k_X10_form.2.1 12 = .ok (.aload_n 0, 1) := by decide +kernel
theorem dX10_form_13 : decode k_X10_form.2.1 13 = .ok (.invokevirtual 189, 3) := by decide +kernel
theorem dX10_form_16 : decode k_X10_form.2.1 16 = .ok (.iload_n 1, 1) := by decide +kernel
theorem dX10_form_17 : decode k_X10_form.2.1 17 = .ok (.aload_n 0, 1) := by decide +kernel
theorem dX10_form_18 : decode k_X10_form.2.1 18 = .ok (.getfield 177, 3) := by decide +kernel
theorem dX10_form_21 : decode k_X10_form.2.1 21 = .ok (.if_icmp .ge 12, 3) := by decide +kernel
theorem dX10_form_24 : decode k_X10_form.2.1 24 = .ok (.aload_n 0, 1) := by decide +kernel
theorem dX10_form_25 : decode k_X10_form.2.1 25 = .ok (.getfield 55, 3) := by decide +kernel
theorem dX10_form_28 : decode k_X10_form.2.1 28 = .ok (.iload_n 1, 1) := by decide +kernel
theorem dX10_form_29 : decode k_X10_form.2.1 29 = .ok (.iaload, 1) := by decide +kernel
theorem dX10_form_30 : decode k_X10_form.2.1 30 = .ok (.goto 4, 3) := by decide +kernel
theorem dX10_form_33 : decode k_X10_form.2.1 33 = .ok (.iconst (-1), 1) := by decide +kernel
theorem dX10_form_34 : decode k_X10_form.2.1 34 = .ok (.ireturn, 1) := by decide +kernel
theorem dX10_lightest_0 : decode k_X10_lightest.2.1 0 = .ok (.iconst (-1), 1) := by decide +kernel
theorem dX10_lightest_1 : decode k_X10_lightest.2.1 1 = .ok (.istore_n 2, 1) := by decide +kernel
theorem dX10_lightest_2 : decode k_X10_lightest.2.1 2 = .ok (.iconst 0, 1) := by decide +kernel
theorem dX10_lightest_3 : decode k_X10_lightest.2.1 3 = .ok (.istore_n 3, 1) := by decide +kernel
theorem dX10_lightest_4 : decode k_X10_lightest.2.1 4 = .ok (.iload_n 3, 1) := by decide +kernel
theorem dX10_lightest_5 : decode k_X10_lightest.2.1 5 = .ok (.bipush 86, 2) := by decide +kernel
theorem dX10_lightest_7 : decode k_X10_lightest.2.1 7 = .ok (.if_icmp .ge 46, 3) := by decide +kernel
theorem dX10_lightest_10 : decode k_X10_lightest.2.1 10 = .ok (.aload_n 0, 1) := by decide +kernel
theorem dX10_lightest_11 : decode k_X10_lightest.2.1 11 = .ok (.getfield 64, 3) := by decide +kernel
theorem dX10_lightest_14 : decode k_X10_lightest.2.1 14 = .ok (.iload_n 3, 1) := by decide +kernel
theorem dX10_lightest_15 : decode k_X10_lightest.2.1 15 = .ok (.iaload, 1) := by decide +kernel
theorem dX10_lightest_16 : decode k_X10_lightest.2.1 16 = .ok (.iload_n 3, 1) := by decide +kernel
theorem dX10_lightest_17 : decode k_X10_lightest.2.1 17 = .ok (.if_icmp .ne 30, 3) := by decide +kernel
theorem dX10_lightest_20 : decode k_X10_lightest.2.1 20 = .ok (.iload_n 3, 1) := by decide +kernel
theorem dX10_lightest_21 : decode k_X10_lightest.2.1 21 = .ok (.iload_n 1, 1) := by decide +kernel
theorem dX10_lightest_22 : decode k_X10_lightest.2.1 22 = .ok (.if_icmp .eq 25, 3) := by decide +kernel
theorem dX10_lightest_25 : decode k_X10_lightest.2.1 25 = .ok (.iload_n 2, 1) := by decide +kernel
theorem dX10_lightest_26 : decode k_X10_lightest.2.1 26 = .ok (.iconst (-1), 1) := by decide +kernel
theorem dX10_lightest_27 : decode k_X10_lightest.2.1 27 = .ok (.if_icmp .eq 18, 3) := by decide +kernel
theorem dX10_lightest_30 : decode k_X10_lightest.2.1 30 = .ok (.aload_n 0, 1) := by decide +kernel
theorem dX10_lightest_31 : decode k_X10_lightest.2.1 31 = .ok (.getfield 61, 3) := by decide +kernel
theorem dX10_lightest_34 : decode k_X10_lightest.2.1 34 = .ok (.iload_n 3, 1) := by decide +kernel
theorem dX10_lightest_35 : decode k_X10_lightest.2.1 35 = .ok (.iaload, 1) := by decide +kernel
theorem dX10_lightest_36 : decode k_X10_lightest.2.1 36 = .ok (.aload_n 0, 1) := by decide +kernel
theorem dX10_lightest_37 : decode k_X10_lightest.2.1 37 = .ok (.getfield 61, 3) := by decide +kernel
theorem dX10_lightest_40 : decode k_X10_lightest.2.1 40 = .ok (.iload_n 2, 1) := by decide +kernel
theorem dX10_lightest_41 : decode k_X10_lightest.2.1 41 = .ok (.iaload, 1) := by decide +kernel
theorem dX10_lightest_42 : decode k_X10_lightest.2.1 42 = .ok (.if_icmp .ge 5, 3) := by decide +kernel
theorem dX10_lightest_45 : decode k_X10_lightest.2.1 45 = .ok (.iload_n 3, 1) := by decide +kernel
theorem dX10_lightest_46 : decode k_X10_lightest.2.1 46 = .ok (.istore_n 2, 1) := by decide +kernel
theorem dX10_lightest_47 : decode k_X10_lightest.2.1 47 = .ok (.iinc 3 1, 3) := by decide +kernel
theorem dX10_lightest_50 : decode k_X10_lightest.2.1 50 = .ok (.goto (-46), 3) := by decide +kernel
theorem dX10_lightest_53 : decode k_X10_lightest.2.1 53 = .ok (.iload_n 2, 1) := by decide +kernel
theorem dX10_lightest_54 : decode k_X10_lightest.2.1 54 = .ok (.ireturn, 1) := by decide +kernel
theorem dX10_laysCodes_0 : decode k_X10_laysCodes.2.1 0 = .ok (.iconst 0, 1) := by decide +kernel
theorem dX10_laysCodes_1 : decode k_X10_laysCodes.2.1 1 = .ok (.istore_n 1, 1) := by decide +kernel
theorem dX10_laysCodes_2 : decode k_X10_laysCodes.2.1 2 = .ok (.iload_n 1, 1) := by decide +kernel
theorem dX10_laysCodes_3 : decode k_X10_laysCodes.2.1 3 = .ok (.bipush 86, 2) := by decide +kernel
theorem dX10_laysCodes_5 : decode k_X10_laysCodes.2.1 5 = .ok (.if_icmp .ge 47, 3) := by decide +kernel
theorem dX10_laysCodes_8 : decode k_X10_laysCodes.2.1 8 = .ok (.aload_n 0, 1) := by decide +kernel
theorem dX10_laysCodes_9 : decode k_X10_laysCodes.2.1 9 = .ok (.getfield 61, 3) := by decide +kernel
theorem dX10_laysCodes_12 : decode k_X10_laysCodes.2.1 12 = .ok (.iload_n 1, 1) := by decide +kernel
theorem dX10_laysCodes_13 : decode k_X10_laysCodes.2.1 13 = .ok (.aload_n 0, 1) := by decide +kernel
theorem dX10_laysCodes_14 : decode k_X10_laysCodes.2.1 14 = .ok (.iload_n 1, 1) := by decide +kernel
theorem dX10_laysCodes_15 : decode k_X10_laysCodes.2.1 15 = .ok (.invokevirtual 192, 3) := by decide +kernel
theorem dX10_laysCodes_18 : decode k_X10_laysCodes.2.1 18 = .ok (.iastore, 1) := by decide +kernel
theorem dX10_laysCodes_19 : decode k_X10_laysCodes.2.1 19 = .ok (.aload_n 0, 1) := by decide +kernel
theorem dX10_laysCodes_20 : decode k_X10_laysCodes.2.1 20 = .ok (.getfield 64, 3) := by decide +kernel
theorem dX10_laysCodes_23 : decode k_X10_laysCodes.2.1 23 = .ok (.iload_n 1, 1) := by decide +kernel
theorem dX10_laysCodes_24 : decode k_X10_laysCodes.2.1 24 = .ok (.aload_n 0, 1) := by decide +kernel
theorem dX10_laysCodes_25 : decode k_X10_laysCodes.2.1 25 = .ok (.getfield 61, 3) := by decide +kernel
theorem dX10_laysCodes_28 : decode k_X10_laysCodes.2.1 28 = .ok (.iload_n 1, 1) := by decide +kernel
theorem dX10_laysCodes_29 : decode k_X10_laysCodes.2.1 29 = .ok (.iaload, 1) := by decide +kernel
theorem dX10_laysCodes_30 : decode k_X10_laysCodes.2.1 30 = .ok (.ifCond .le 7, 3) := by decide +kernel
theorem dX10_laysCodes_33 : decode k_X10_laysCodes.2.1 33 = .ok (.iload_n 1, 1) := by decide +kernel
theorem dX10_laysCodes_34 : decode k_X10_laysCodes.2.1 34 = .ok (.goto 4, 3) := by decide +kernel
theorem dX10_laysCodes_37 : decode k_X10_laysCodes.2.1 37 = .ok (.iconst (-1), 1) := by decide +kernel
theorem dX10_laysCodes_38 : decode k_X10_laysCodes.2.1 38 = .ok (.iastore, 1) := by decide +kernel
theorem dX10_laysCodes_39 : decode k_X10_laysCodes.2.1 39 = .ok (.aload_n 0, 1) := by decide +kernel
theorem dX10_laysCodes_40 : decode k_X10_laysCodes.2.1 40 = .ok (.getfield 67, 3) := by decide +kernel
theorem dX10_laysCodes_43 : decode k_X10_laysCodes.2.1 43 = .ok (.iload_n 1, 1) := by decide +kernel
theorem dX10_laysCodes_44 : decode k_X10_laysCodes.2.1 44 = .ok (.iconst 0, 1) := by decide +kernel
theorem dX10_laysCodes_45 : decode k_X10_laysCodes.2.1 45 = .ok (.iastore, 1) := by decide +kernel
theorem dX10_laysCodes_46 : decode k_X10_laysCodes.2.1 46 = .ok (.iinc 1 1, 3) := by decide +kernel
theorem dX10_laysCodes_49 : decode k_X10_laysCodes.2.1 49 = .ok (.goto (-47), 3) := by decide +kernel
theorem dX10_laysCodes_52 : decode k_X10_laysCodes.2.1 52 = .ok (.aload_n 0, 1) := by decide +kernel
theorem dX10_laysCodes_53 : decode k_X10_laysCodes.2.1 53 = .ok (.iconst (-1), 1) := by decide +kernel
theorem dX10_laysCodes_54 : decode k_X10_laysCodes.2.1 54 = .ok (.invokevirtual 195, 3) := by decide +kernel
theorem dX10_laysCodes_57 : decode k_X10_laysCodes.2.1 57 = .ok (.istore_n 1, 1) := by decide +kernel
theorem dX10_laysCodes_58 : decode k_X10_laysCodes.2.1 58 = .ok (.iload_n 1, 1) := by decide +kernel
theorem dX10_laysCodes_59 : decode k_X10_laysCodes.2.1 59 = .ok (.iconst (-1), 1) := by decide +kernel
theorem dX10_laysCodes_60 : decode k_X10_laysCodes.2.1 60 = .ok (.if_icmp .ne 7, 3) := by decide +kernel
theorem dX10_laysCodes_63 : decode k_X10_laysCodes.2.1 63 = .ok (.iconst (-1), 1) := by decide +kernel
theorem dX10_laysCodes_64 : decode k_X10_laysCodes.2.1 64 = .ok (.goto 8, 3) := by decide +kernel
theorem dX10_laysCodes_67 : decode k_X10_laysCodes.2.1 67 = .ok (.aload_n 0, 1) := by decide +kernel
theorem dX10_laysCodes_68 : decode k_X10_laysCodes.2.1 68 = .ok (.iload_n 1, 1) := by decide +kernel
theorem dX10_laysCodes_69 : decode k_X10_laysCodes.2.1 69 = .ok (.invokevirtual 195, 3) := by decide +kernel
theorem dX10_laysCodes_72 : decode k_X10_laysCodes.2.1 72 = .ok (.istore_n 2, 1) := by decide +kernel
theorem dX10_laysCodes_73 : decode k_X10_laysCodes.2.1 73 = .ok (.iload_n 1, 1) := by decide +kernel
theorem dX10_laysCodes_74 : decode k_X10_laysCodes.2.1 74 = .ok (.iconst (-1), 1) := by decide +kernel
theorem dX10_laysCodes_75 : decode k_X10_laysCodes.2.1 75 = .ok (.if_icmp .eq 15, 3) := by decide +kernel
theorem dX10_laysCodes_78 : decode k_X10_laysCodes.2.1 78 = .ok (.iload_n 2, 1) := by decide +kernel
theorem dX10_laysCodes_79 : decode k_X10_laysCodes.2.1 79 = .ok (.iconst (-1), 1) := by decide +kernel
theorem dX10_laysCodes_80 : decode k_X10_laysCodes.2.1 80 = .ok (.if_icmp .ne 10, 3) := by decide +kernel
theorem dX10_laysCodes_83 : decode k_X10_laysCodes.2.1 83 = .ok (.aload_n 0, 1) := by decide +kernel
theorem dX10_laysCodes_84 : decode k_X10_laysCodes.2.1 84 = .ok (.getfield 67, 3) := by decide +kernel
theorem dX10_laysCodes_87 : decode k_X10_laysCodes.2.1 87 = .ok (.iload_n 1, 1) := by decide +kernel
theorem dX10_laysCodes_88 : decode k_X10_laysCodes.2.1 88 = .ok (.iconst 1, 1) := by decide +kernel
theorem dX10_laysCodes_89 : decode k_X10_laysCodes.2.1 89 = .ok (.iastore, 1) := by decide +kernel
theorem dX10_laysCodes_90 : decode k_X10_laysCodes.2.1 90 = .ok (.iload_n 2, 1) := by decide +kernel
theorem dX10_laysCodes_91 : decode k_X10_laysCodes.2.1 91 = .ok (.iconst (-1), 1) := by decide +kernel
theorem dX10_laysCodes_92 : decode k_X10_laysCodes.2.1 92 = .ok (.if_icmp .eq 24, 3) := by decide +kernel
theorem dX10_laysCodes_95 : decode k_X10_laysCodes.2.1 95 = .ok (.aload_n 0, 1) := by decide +kernel
theorem dX10_laysCodes_96 : decode k_X10_laysCodes.2.1 96 = .ok (.iload_n 1, 1) := by decide +kernel
theorem dX10_laysCodes_97 : decode k_X10_laysCodes.2.1 97 = .ok (.iload_n 2, 1) := by decide +kernel
theorem dX10_laysCodes_98 : decode k_X10_laysCodes.2.1 98 = .ok (.invokevirtual 198, 3) := by decide +kernel
theorem dX10_laysCodes_101 : decode k_X10_laysCodes.2.1 101 = .ok (.aload_n 0, 1) := by decide +kernel
theorem dX10_laysCodes_102 : decode k_X10_laysCodes.2.1 102 = .ok (.iconst (-1), 1) := by decide +kernel
theorem dX10_laysCodes_103 : decode k_X10_laysCodes.2.1 103 = .ok (.invokevirtual 195, 3) := by decide +kernel
theorem dX10_laysCodes_106 : decode k_X10_laysCodes.2.1 106 = .ok (.istore_n 1, 1) := by decide +kernel
theorem dX10_laysCodes_107 : decode k_X10_laysCodes.2.1 107 = .ok (.aload_n 0, 1) := by decide +kernel
theorem dX10_laysCodes_108 : decode k_X10_laysCodes.2.1 108 = .ok (.iload_n 1, 1) := by decide +kernel
theorem dX10_laysCodes_109 : decode k_X10_laysCodes.2.1 109 = .ok (.invokevirtual 195, 3) := by decide +kernel
theorem dX10_laysCodes_112 : decode k_X10_laysCodes.2.1 112 = .ok (.istore_n 2, 1) := by decide +kernel
theorem dX10_laysCodes_113 : decode k_X10_laysCodes.2.1 113 = .ok (.goto (-23), 3) := by decide +kernel
theorem dX10_laysCodes_116 : decode k_X10_laysCodes.2.1 116 = .ok (.aload_n 0, 1) := by decide +kernel
theorem dX10_laysCodes_117 : decode k_X10_laysCodes.2.1 117 = .ok (.invokevirtual 201, 3) := by decide +kernel
theorem dX10_laysCodes_120 : decode k_X10_laysCodes.2.1 120 = .ok (.return_, 1) := by decide +kernel
theorem dX10_joins_0 : decode k_X10_joins.2.1 0 = .ok (.iload_n 1, 1) := by decide +kernel
theorem dX10_joins_1 : decode k_X10_joins.2.1 1 = .ok (.iload_n 2, 1) := by decide +kernel
theorem dX10_joins_2 : decode k_X10_joins.2.1 2 = .ok (.invokestatic 204, 3) := by decide +kernel
theorem dX10_joins_5 : decode k_X10_joins.2.1 5 = .ok (.istore_n 3, 1) := by decide +kernel
theorem dX10_joins_6 : decode k_X10_joins.2.1 6 = .ok (.aload_n 0, 1) := by decide +kernel
theorem dX10_joins_7 : decode k_X10_joins.2.1 7 = .ok (.getfield 61, 3) := by decide +kernel
theorem dX10_joins_10 : decode k_X10_joins.2.1 10 = .ok (.iload_n 1, 1) := by decide +kernel
theorem dX10_joins_11 : decode k_X10_joins.2.1 11 = .ok (.iaload, 1) := by decide +kernel
theorem dX10_joins_12 : decode k_X10_joins.2.1 12 = .ok (.aload_n 0, 1) := by decide +kernel
theorem dX10_joins_13 : decode k_X10_joins.2.1 13 = .ok (.getfield 61, 3) := by decide +kernel
theorem dX10_joins_16 : decode k_X10_joins.2.1 16 = .ok (.iload_n 2, 1) := by decide +kernel
theorem dX10_joins_17 : decode k_X10_joins.2.1 17 = .ok (.iaload, 1) := by decide +kernel
theorem dX10_joins_18 : decode k_X10_joins.2.1 18 = .ok (.iadd, 1) := by decide +kernel
theorem dX10_joins_19 : decode k_X10_joins.2.1 19 = .ok (.istore 4, 2) := by decide +kernel
theorem dX10_joins_21 : decode k_X10_joins.2.1 21 = .ok (.iconst 0, 1) := by decide +kernel
theorem dX10_joins_22 : decode k_X10_joins.2.1 22 = .ok (.istore 5, 2) := by decide +kernel
theorem dX10_joins_24 : decode k_X10_joins.2.1 24 = .ok (.iload 5, 2) := by decide +kernel
theorem dX10_joins_26 : decode k_X10_joins.2.1 26 = .ok (.bipush 86, 2) := by decide +kernel
theorem dX10_joins_28 : decode k_X10_joins.2.1 28 = .ok (.if_icmp .ge 64, 3) := by decide +kernel
theorem dX10_joins_31 : decode k_X10_joins.2.1 31 = .ok (.aload_n 0, 1) := by decide +kernel
theorem dX10_joins_32 : decode k_X10_joins.2.1 32 = .ok (.getfield 64, 3) := by decide +kernel
theorem dX10_joins_35 : decode k_X10_joins.2.1 35 = .ok (.iload 5, 2) := by decide +kernel
theorem dX10_joins_37 : decode k_X10_joins.2.1 37 = .ok (.iaload, 1) := by decide +kernel
theorem dX10_joins_38 : decode k_X10_joins.2.1 38 = .ok (.iconst (-1), 1) := by decide +kernel
theorem dX10_joins_39 : decode k_X10_joins.2.1 39 = .ok (.if_icmp .eq 47, 3) := by decide +kernel
theorem dX10_joins_42 : decode k_X10_joins.2.1 42 = .ok (.aload_n 0, 1) := by decide +kernel
theorem dX10_joins_43 : decode k_X10_joins.2.1 43 = .ok (.getfield 64, 3) := by decide +kernel
theorem dX10_joins_46 : decode k_X10_joins.2.1 46 = .ok (.iload 5, 2) := by decide +kernel
theorem dX10_joins_48 : decode k_X10_joins.2.1 48 = .ok (.iaload, 1) := by decide +kernel
theorem dX10_joins_49 : decode k_X10_joins.2.1 49 = .ok (.iload_n 1, 1) := by decide +kernel
theorem dX10_joins_50 : decode k_X10_joins.2.1 50 = .ok (.if_icmp .eq 17, 3) := by decide +kernel
theorem dX10_joins_53 : decode k_X10_joins.2.1 53 = .ok (.aload_n 0, 1) := by decide +kernel
theorem dX10_joins_54 : decode k_X10_joins.2.1 54 = .ok (.getfield 64, 3) := by decide +kernel
theorem dX10_joins_57 : decode k_X10_joins.2.1 57 = .ok (.iload 5, 2) := by decide +kernel
theorem dX10_joins_59 : decode k_X10_joins.2.1 59 = .ok (.iaload, 1) := by decide +kernel
theorem dX10_joins_60 : decode k_X10_joins.2.1 60 = .ok (.iload_n 2, 1) := by decide +kernel
theorem dX10_joins_61 : decode k_X10_joins.2.1 61 = .ok (.if_icmp .eq 6, 3) := by decide +kernel
theorem dX10_joins_64 : decode k_X10_joins.2.1 64 = .ok (.goto 22, 3) := by decide +kernel
theorem dX10_joins_67 : decode k_X10_joins.2.1 67 = .ok (.aload_n 0, 1) := by decide +kernel
theorem dX10_joins_68 : decode k_X10_joins.2.1 68 = .ok (.getfield 64, 3) := by decide +kernel
theorem dX10_joins_71 : decode k_X10_joins.2.1 71 = .ok (.iload 5, 2) := by decide +kernel
theorem dX10_joins_73 : decode k_X10_joins.2.1 73 = .ok (.iload_n 3, 1) := by decide +kernel
theorem dX10_joins_74 : decode k_X10_joins.2.1 74 = .ok (.iastore, 1) := by decide +kernel
theorem dX10_joins_75 : decode k_X10_joins.2.1 75 = .ok (.aload_n 0, 1) := by decide +kernel
theorem dX10_joins_76 : decode k_X10_joins.2.1 76 = .ok (.getfield 67, 3) := by decide +kernel
theorem dX10_joins_79 : decode k_X10_joins.2.1 79 = .ok (.iload 5, 2) := by decide +kernel
theorem dX10_joins_81 : decode k_X10_joins.2.1 81 = .ok (.dup2, 1) := by decide +kernel
theorem dX10_joins_82 : decode k_X10_joins.2.1 82 = .ok (.iaload, 1) := by decide +kernel
theorem dX10_joins_83 : decode k_X10_joins.2.1 83 = .ok (.iconst 1, 1) := by decide +kernel
theorem dX10_joins_84 : decode k_X10_joins.2.1 84 = .ok (.iadd, 1) := by decide +kernel
theorem dX10_joins_85 : decode k_X10_joins.2.1 85 = .ok (.iastore, 1) := by decide +kernel
theorem dX10_joins_86 : decode k_X10_joins.2.1 86 = .ok (.iinc 5 1, 3) := by decide +kernel
theorem dX10_joins_89 : decode k_X10_joins.2.1 89 = .ok (.goto (-65), 3) := by decide +kernel
theorem dX10_joins_92 : decode k_X10_joins.2.1 92 = .ok (.aload_n 0, 1) := by decide +kernel
theorem dX10_joins_93 : decode k_X10_joins.2.1 93 = .ok (.getfield 61, 3) := by decide +kernel
theorem dX10_joins_96 : decode k_X10_joins.2.1 96 = .ok (.iload_n 3, 1) := by decide +kernel
theorem dX10_joins_97 : decode k_X10_joins.2.1 97 = .ok (.iload 4, 2) := by decide +kernel
theorem dX10_joins_99 : decode k_X10_joins.2.1 99 = .ok (.iastore, 1) := by decide +kernel
theorem dX10_joins_100 : decode k_X10_joins.2.1 100 = .ok (.return_, 1) := by decide +kernel
theorem dX10_ranksCodes_0 : decode k_X10_ranksCodes.2.1 0 = .ok (.aload_n 0, 1) := by decide +kernel
theorem dX10_ranksCodes_1 : decode k_X10_ranksCodes.2.1 1 = .ok (.iconst 0, 1) := by decide +kernel
theorem dX10_ranksCodes_2 : decode k_X10_ranksCodes.2.1 2 = .ok (.putfield 207, 3) := by decide +kernel
theorem dX10_ranksCodes_5 : decode k_X10_ranksCodes.2.1 5 = .ok (.iconst 1, 1) := by decide +kernel
theorem dX10_ranksCodes_6 : decode k_X10_ranksCodes.2.1 6 = .ok (.istore_n 1, 1) := by decide +kernel
theorem dX10_ranksCodes_7 : decode k_X10_ranksCodes.2.1 7 = .ok (.iload_n 1, 1) := by decide +kernel
theorem dX10_ranksCodes_8 : decode k_X10_ranksCodes.2.1 8 = .ok (.bipush 86, 2) := by decide +kernel
theorem dX10_ranksCodes_10 : decode k_X10_ranksCodes.2.1 10 = .ok (.if_icmp .ge 111, 3) := by decide +kernel
theorem dX10_ranksCodes_13 : decode k_X10_ranksCodes.2.1 13 = .ok (.iconst 0, 1) := by decide +kernel
theorem dX10_ranksCodes_14 : decode k_X10_ranksCodes.2.1 14 = .ok (.istore_n 2, 1) := by decide +kernel
theorem dX10_ranksCodes_15 : decode k_X10_ranksCodes.2.1 15 = .ok (.iload_n 2, 1) := by decide +kernel
theorem dX10_ranksCodes_16 : decode k_X10_ranksCodes.2.1 16 = .ok (.bipush 86, 2) := by decide +kernel
theorem dX10_ranksCodes_18 : decode k_X10_ranksCodes.2.1 18 = .ok (.if_icmp .ge 97, 3) := by decide +kernel
theorem dX10_ranksCodes_21 : decode k_X10_ranksCodes.2.1 21 = .ok (.aload_n 0, 1) := by decide +kernel
theorem dX10_ranksCodes_22 : decode k_X10_ranksCodes.2.1 22 = .ok (.getfield 67, 3) := by decide +kernel
theorem dX10_ranksCodes_25 : decode k_X10_ranksCodes.2.1 25 = .ok (.iload_n 2, 1) := by decide +kernel
theorem dX10_ranksCodes_26 : decode k_X10_ranksCodes.2.1 26 = .ok (.iaload, 1) := by decide +kernel
theorem dX10_ranksCodes_27 : decode k_X10_ranksCodes.2.1 27 = .ok (.iload_n 1, 1) := by decide +kernel
theorem dX10_ranksCodes_28 : decode k_X10_ranksCodes.2.1 28 = .ok (.if_icmp .eq 6, 3) := by decide +kernel
theorem dX10_ranksCodes_31 : decode k_X10_ranksCodes.2.1 31 = .ok (.goto 78, 3) := by decide +kernel
theorem dX10_ranksCodes_34 : decode k_X10_ranksCodes.2.1 34 = .ok (.aload_n 0, 1) := by decide +kernel
theorem dX10_ranksCodes_35 : decode k_X10_ranksCodes.2.1 35 = .ok (.getfield 207, 3) := by decide +kernel
theorem dX10_ranksCodes_38 : decode k_X10_ranksCodes.2.1 38 = .ok (.ifCond .ne 7, 3) := by decide +kernel
theorem dX10_ranksCodes_41 : decode k_X10_ranksCodes.2.1 41 = .ok (.iconst (-1), 1) := by decide +kernel
theorem dX10_ranksCodes_42 : decode k_X10_ranksCodes.2.1 42 = .ok (.goto 14, 3) := by decide +kernel
theorem dX10_ranksCodes_45 : decode k_X10_ranksCodes.2.1 45 = .ok (.aload_n 0, 1) := by decide +kernel
theorem dX10_ranksCodes_46 : decode k_X10_ranksCodes.2.1 46 = .ok (.getfield 70, 3) := by decide +kernel
theorem dX10_ranksCodes_49 : decode k_X10_ranksCodes.2.1 49 = .ok (.aload_n 0, 1) := by decide +kernel
theorem dX10_ranksCodes_50 : decode k_X10_ranksCodes.2.1 50 = .ok (.getfield 207, 3) := by decide +kernel
theorem dX10_ranksCodes_53 : decode k_X10_ranksCodes.2.1 53 = .ok (.iconst 1, 1) := by decide +kernel
theorem dX10_ranksCodes_54 : decode k_X10_ranksCodes.2.1 54 = .ok (.isub, 1) := by decide +kernel
theorem dX10_ranksCodes_55 : decode k_X10_ranksCodes.2.1 55 = .ok (.iaload, 1) := by decide +kernel
theorem dX10_ranksCodes_56 : decode k_X10_ranksCodes.2.1 56 = .ok (.istore_n 3, 1) := by decide +kernel
theorem dX10_ranksCodes_57 : decode k_X10_ranksCodes.2.1 57 = .ok (.aload_n 0, 1) := by decide +kernel
theorem dX10_ranksCodes_58 : decode k_X10_ranksCodes.2.1 58 = .ok (.getfield 73, 3) := by decide +kernel
theorem dX10_ranksCodes_61 : decode k_X10_ranksCodes.2.1 61 = .ok (.iload_n 2, 1) := by decide +kernel
theorem dX10_ranksCodes_62 : decode k_X10_ranksCodes.2.1 62 = .ok (.iload_n 3, 1) := by decide +kernel
theorem dX10_ranksCodes_63 : decode k_X10_ranksCodes.2.1 63 = .ok (.iconst (-1), 1) := by decide +kernel
theorem dX10_ranksCodes_64 : decode k_X10_ranksCodes.2.1 64 = .ok (.if_icmp .ne 7, 3) := by decide +kernel
theorem dX10_ranksCodes_67 : decode k_X10_ranksCodes.2.1 67 = .ok (.iconst 0, 1) := by decide +kernel
theorem dX10_ranksCodes_68 : decode k_X10_ranksCodes.2.1 68 = .ok (.goto 20, 3) := by decide +kernel
theorem dX10_ranksCodes_71 : decode k_X10_ranksCodes.2.1 71 = .ok (.aload_n 0, 1) := by decide +kernel
theorem dX10_ranksCodes_72 : decode k_X10_ranksCodes.2.1 72 = .ok (.getfield 73, 3) := by decide +kernel
theorem dX10_ranksCodes_75 : decode k_X10_ranksCodes.2.1 75 = .ok (.iload_n 3, 1) := by decide +kernel
theorem dX10_ranksCodes_76 : decode k_X10_ranksCodes.2.1 76 = .ok (.iaload, 1) := by decide +kernel
theorem dX10_ranksCodes_77 : decode k_X10_ranksCodes.2.1 77 = .ok (.iconst 1, 1) := by decide +kernel
theorem dX10_ranksCodes_78 : decode k_X10_ranksCodes.2.1 78 = .ok (.iadd, 1) := by decide +kernel
theorem dX10_ranksCodes_79 : decode k_X10_ranksCodes.2.1 79 = .ok (.iload_n 1, 1) := by decide +kernel
theorem dX10_ranksCodes_80 : decode k_X10_ranksCodes.2.1 80 = .ok (.aload_n 0, 1) := by decide +kernel
theorem dX10_ranksCodes_81 : decode k_X10_ranksCodes.2.1 81 = .ok (.getfield 67, 3) := by decide +kernel
theorem dX10_ranksCodes_84 : decode k_X10_ranksCodes.2.1 84 = .ok (.iload_n 3, 1) := by decide +kernel
theorem dX10_ranksCodes_85 : decode k_X10_ranksCodes.2.1 85 = .ok (.iaload, 1) := by decide +kernel
theorem dX10_ranksCodes_86 : decode k_X10_ranksCodes.2.1 86 = .ok (.isub, 1) := by decide +kernel
theorem dX10_ranksCodes_87 : decode k_X10_ranksCodes.2.1 87 = .ok (.ishl, 1) := by decide +kernel
theorem dX10_ranksCodes_88 : decode k_X10_ranksCodes.2.1 88 = .ok (.iastore, 1) := by decide +kernel
theorem dX10_ranksCodes_89 : decode k_X10_ranksCodes.2.1 89 = .ok (.aload_n 0, 1) := by decide +kernel
theorem dX10_ranksCodes_90 : decode k_X10_ranksCodes.2.1 90 = .ok (.getfield 70, 3) := by decide +kernel
theorem dX10_ranksCodes_93 : decode k_X10_ranksCodes.2.1 93 = .ok (.aload_n 0, 1) := by decide +kernel
theorem dX10_ranksCodes_94 : decode k_X10_ranksCodes.2.1 94 = .ok (.getfield 207, 3) := by decide +kernel
theorem dX10_ranksCodes_97 : decode k_X10_ranksCodes.2.1 97 = .ok (.iload_n 2, 1) := by decide +kernel
theorem dX10_ranksCodes_98 : decode k_X10_ranksCodes.2.1 98 = .ok (.iastore, 1) := by decide +kernel
theorem dX10_ranksCodes_99 : decode k_X10_ranksCodes.2.1 99 = .ok (.aload_n 0, 1) := by decide +kernel
theorem dX10_ranksCodes_100 : decode k_X10_ranksCodes.2.1 100 = .ok (.dup, 1) := by decide +kernel
theorem dX10_ranksCodes_101 : decode k_X10_ranksCodes.2.1 101 = .ok (.getfield 207, 3) := by decide +kernel
theorem dX10_ranksCodes_104 : decode k_X10_ranksCodes.2.1 104 = .ok (.iconst 1, 1) := by decide +kernel
theorem dX10_ranksCodes_105 : decode k_X10_ranksCodes.2.1 105 = .ok (.iadd, 1) := by decide +kernel
theorem dX10_ranksCodes_106 : decode k_X10_ranksCodes.2.1 106 = .ok (.putfield 207, 3) := by decide +kernel
theorem dX10_ranksCodes_109 : decode k_X10_ranksCodes.2.1 109 = .ok (.iinc 2 1, 3) := by decide +kernel
theorem dX10_ranksCodes_112 : decode k_X10_ranksCodes.2.1 112 = .ok (.goto (-97), 3) := by decide +kernel
theorem dX10_ranksCodes_115 : decode k_X10_ranksCodes.2.1 115 = .ok (.iinc 1 1, 3) := by decide +kernel
theorem dX10_ranksCodes_118 : decode k_X10_ranksCodes.2.1 118 = .ok (.goto (-111), 3) := by decide +kernel
theorem dX10_ranksCodes_121 : decode k_X10_ranksCodes.2.1 121 = .ok (.return_, 1) := by decide +kernel
theorem dX10_code_0 : decode k_X10_code.2.1 0 = .ok (.aload_n 0, 1) := by decide +kernel
theorem dX10_code_1 : decode k_X10_code.2.1 1 = .ok (.iconst 0, 1) := by decide +kernel
theorem dX10_code_2 : decode k_X10_code.2.1 2 = .ok (.putfield 1, 3) := by decide +kernel
theorem dX10_code_5 : decode k_X10_code.2.1 5 = .ok (.aload_n 0, 1) := by decide +kernel
theorem dX10_code_6 : decode k_X10_code.2.1 6 = .ok (.iload_n 1, 1) := by decide +kernel
theorem dX10_code_7 : decode k_X10_code.2.1 7 = .ok (.invokevirtual 210, 3) := by decide +kernel
theorem dX10_code_10 : decode k_X10_code.2.1 10 = .ok (.ifCond .eq 13, 3) := by decide +kernel
theorem dX10_code_13 : decode k_X10_code.2.1 13 = .ok (.iload_n 2, 1) := by decide +kernel
theorem dX10_code_14 : decode k_X10_code.2.1 14 = .ok (.i2l, 1) := by decide +kernel
theorem dX10_code_15 : decode k_X10_code.2.1 15 = .ok (.lconst 0, 1) := by decide +kernel
theorem dX10_code_16 : decode k_X10_code.2.1 16 = .ok (.lconst 1, 1) := by decide +kernel
theorem dX10_code_17 : decode k_X10_code.2.1 17 = .ok (.invokestatic 98, 3) := by decide +kernel
theorem dX10_code_20 : decode k_X10_code.2.1 20 = .ok (.ifCond .ne 6, 3) := by decide +kernel
theorem dX10_code_23 : decode k_X10_code.2.1 23 = .ok (.bipush (-2), 2) := by decide +kernel
theorem dX10_code_25 : decode k_X10_code.2.1 25 = .ok (.ireturn, 1) := by decide +kernel
theorem dX10_code_26 : decode k_X10_code.2.1 26 = .ok (.aload_n 0, 1) := by decide +kernel
theorem dX10_code_27 : decode k_X10_code.2.1 27 = .ok (.invokevirtual 214, 3) := by decide +kernel
theorem dX10_code_30 : decode k_X10_code.2.1 30 = .ok (.iload_n 2, 1) := by decide +kernel
theorem dX10_code_31 : decode k_X10_code.2.1 31 = .ok (.ifCond .ne 12, 3) := by decide +kernel
theorem dX10_code_34 : decode k_X10_code.2.1 34 = .ok (.aload_n 0, 1) := by decide +kernel
theorem dX10_code_35 : decode k_X10_code.2.1 35 = .ok (.getfield 67, 3) := by decide +kernel
theorem dX10_code_38 : decode k_X10_code.2.1 38 = .ok (.iload_n 1, 1) := by decide +kernel
theorem dX10_code_39 : decode k_X10_code.2.1 39 = .ok (.iaload, 1) := by decide +kernel
theorem dX10_code_40 : decode k_X10_code.2.1 40 = .ok (.goto 22, 3) := by decide +kernel
theorem dX10_code_43 : decode k_X10_code.2.1 43 = .ok (.aload_n 0, 1) := by decide +kernel
theorem dX10_code_44 : decode k_X10_code.2.1 44 = .ok (.getfield 67, 3) := by decide +kernel
theorem dX10_code_47 : decode k_X10_code.2.1 47 = .ok (.iload_n 1, 1) := by decide +kernel
theorem dX10_code_48 : decode k_X10_code.2.1 48 = .ok (.iaload, 1) := by decide +kernel
theorem dX10_code_49 : decode k_X10_code.2.1 49 = .ok (.ifCond .ne 7, 3) := by decide +kernel
theorem dX10_code_52 : decode k_X10_code.2.1 52 = .ok (.iconst (-1), 1) := by decide +kernel
theorem dX10_code_53 : decode k_X10_code.2.1 53 = .ok (.goto 9, 3) := by decide +kernel
theorem dX10_code_56 : decode k_X10_code.2.1 56 = .ok (.aload_n 0, 1) := by decide +kernel
theorem dX10_code_57 : decode k_X10_code.2.1 57 = .ok (.getfield 73, 3) := by decide +kernel
theorem dX10_code_60 : decode k_X10_code.2.1 60 = .ok (.iload_n 1, 1) := by decide +kernel
theorem dX10_code_61 : decode k_X10_code.2.1 61 = .ok (.iaload, 1) := by decide +kernel
theorem dX10_code_62 : decode k_X10_code.2.1 62 = .ok (.ireturn, 1) := by decide +kernel
theorem dX10_coded_0 : decode k_X10_coded.2.1 0 = .ok (.aload_n 0, 1) := by decide +kernel
theorem dX10_coded_1 : decode k_X10_coded.2.1 1 = .ok (.iconst 0, 1) := by decide +kernel
theorem dX10_coded_2 : decode k_X10_coded.2.1 2 = .ok (.putfield 1, 3) := by decide +kernel
theorem dX10_coded_5 : decode k_X10_coded.2.1 5 = .ok (.iload_n 1, 1) := by decide +kernel
theorem dX10_coded_6 : decode k_X10_coded.2.1 6 = .ok (.ifCond .ge 6, 3) := by decide +kernel
theorem dX10_coded_9 : decode k_X10_coded.2.1 9 = .ok (.bipush (-3), 2) := by decide +kernel
theorem dX10_coded_11 : decode k_X10_coded.2.1 11 = .ok (.ireturn, 1) := by decide +kernel
theorem dX10_coded_12 : decode k_X10_coded.2.1 12 = .ok (.aload_n 0, 1) := by decide +kernel
theorem dX10_coded_13 : decode k_X10_coded.2.1 13 = .ok (.invokevirtual 214, 3) := by decide +kernel
theorem dX10_coded_16 : decode k_X10_coded.2.1 16 = .ok (.iload_n 1, 1) := by decide +kernel
theorem dX10_coded_17 : decode k_X10_coded.2.1 17 = .ok (.aload_n 0, 1) := by decide +kernel
theorem dX10_coded_18 : decode k_X10_coded.2.1 18 = .ok (.getfield 207, 3) := by decide +kernel
theorem dX10_coded_21 : decode k_X10_coded.2.1 21 = .ok (.if_icmp .ge 12, 3) := by decide +kernel
theorem dX10_coded_24 : decode k_X10_coded.2.1 24 = .ok (.aload_n 0, 1) := by decide +kernel
theorem dX10_coded_25 : decode k_X10_coded.2.1 25 = .ok (.getfield 70, 3) := by decide +kernel
theorem dX10_coded_28 : decode k_X10_coded.2.1 28 = .ok (.iload_n 1, 1) := by decide +kernel
theorem dX10_coded_29 : decode k_X10_coded.2.1 29 = .ok (.iaload, 1) := by decide +kernel
theorem dX10_coded_30 : decode k_X10_coded.2.1 30 = .ok (.goto 4, 3) := by decide +kernel
theorem dX10_coded_33 : decode k_X10_coded.2.1 33 = .ok (.iconst (-1), 1) := by decide +kernel
theorem dX10_coded_34 : decode k_X10_coded.2.1 34 = .ok (.ireturn, 1) := by decide +kernel
theorem dX10_bitsAll_0 : decode k_X10_bitsAll.2.1 0 = .ok (.aload_n 0, 1) := by decide +kernel
theorem dX10_bitsAll_1 : decode k_X10_bitsAll.2.1 1 = .ok (.invokevirtual 214, 3) := by decide +kernel
theorem dX10_bitsAll_4 : decode k_X10_bitsAll.2.1 4 = .ok (.iconst 0, 1) := by decide +kernel
theorem dX10_bitsAll_5 : decode k_X10_bitsAll.2.1 5 = .ok (.istore_n 1, 1) := by decide +kernel
theorem dX10_bitsAll_6 : decode k_X10_bitsAll.2.1 6 = .ok (.iconst 0, 1) := by decide +kernel
theorem dX10_bitsAll_7 : decode k_X10_bitsAll.2.1 7 = .ok (.istore_n 2, 1) := by decide +kernel
theorem dX10_bitsAll_8 : decode k_X10_bitsAll.2.1 8 = .ok (.iload_n 2, 1) := by decide +kernel
theorem dX10_bitsAll_9 : decode k_X10_bitsAll.2.1 9 = .ok (.aload_n 0, 1) := by decide +kernel
theorem dX10_bitsAll_10 : decode k_X10_bitsAll.2.1 10 = .ok (.invokevirtual 123, 3) := by decide +kernel
theorem dX10_bitsAll_13 : decode k_X10_bitsAll.2.1 13 = .ok (.if_icmp .ge 22, 3) := by decide +kernel
theorem dX10_bitsAll_16 : decode k_X10_bitsAll.2.1 16 = .ok (.iload_n 1, 1) := by decide +kernel
theorem dX10_bitsAll_17 : decode k_X10_bitsAll.2.1 17 = .ok (.aload_n 0, 1) := by decide +kernel
theorem dX10_bitsAll_18 : decode k_X10_bitsAll.2.1 18 = .ok (.getfield 67, 3) := by decide +kernel
theorem dX10_bitsAll_21 : decode k_X10_bitsAll.2.1 21 = .ok (.aload_n 0, 1) := by decide +kernel
theorem dX10_bitsAll_22 : decode k_X10_bitsAll.2.1 22 = .ok (.iload_n 2, 1) := by decide +kernel
theorem dX10_bitsAll_23 : decode k_X10_bitsAll.2.1 23 = .ok (.invokevirtual 127, 3) := by decide +kernel
theorem dX10_bitsAll_26 : decode k_X10_bitsAll.2.1 26 = .ok (.iaload, 1) := by decide +kernel
theorem dX10_bitsAll_27 : decode k_X10_bitsAll.2.1 27 = .ok (.iadd, 1) := by decide +kernel
theorem dX10_bitsAll_28 : decode k_X10_bitsAll.2.1 28 = .ok (.istore_n 1, 1) := by decide +kernel
theorem dX10_bitsAll_29 : decode k_X10_bitsAll.2.1 29 = .ok (.iinc 2 1, 3) := by decide +kernel
theorem dX10_bitsAll_32 : decode k_X10_bitsAll.2.1 32 = .ok (.goto (-24), 3) := by decide +kernel
theorem dX10_bitsAll_35 : decode k_X10_bitsAll.2.1 35 = .ok (.iload_n 1, 1) := by decide +kernel
theorem dX10_bitsAll_36 : decode k_X10_bitsAll.2.1 36 = .ok (.ireturn, 1) := by decide +kernel
theorem dX10_text_0 : decode k_X10_text.2.1 0 = .ok (.aload_n 0, 1) := by decide +kernel
theorem dX10_text_1 : decode k_X10_text.2.1 1 = .ok (.iconst 0, 1) := by decide +kernel
theorem dX10_text_2 : decode k_X10_text.2.1 2 = .ok (.putfield 1, 3) := by decide +kernel
theorem dX10_text_5 : decode k_X10_text.2.1 5 = .ok (.aload_n 0, 1) := by decide +kernel
theorem dX10_text_6 : decode k_X10_text.2.1 6 = .ok (.iload_n 1, 1) := by decide +kernel
theorem dX10_text_7 : decode k_X10_text.2.1 7 = .ok (.iconst 0, 1) := by decide +kernel
theorem dX10_text_8 : decode k_X10_text.2.1 8 = .ok (.sipush 240, 3) := by decide +kernel
theorem dX10_text_11 : decode k_X10_text.2.1 11 = .ok (.invokevirtual 217, 3) := by decide +kernel
theorem dX10_text_14 : decode k_X10_text.2.1 14 = .ok (.istore_n 2, 1) := by decide +kernel
theorem dX10_text_15 : decode k_X10_text.2.1 15 = .ok (.iload_n 2, 1) := by decide +kernel
theorem dX10_text_16 : decode k_X10_text.2.1 16 = .ok (.ifCond .eq 5, 3) := by decide +kernel
theorem dX10_text_19 : decode k_X10_text.2.1 19 = .ok (.iload_n 2, 1) := by decide +kernel
theorem dX10_text_20 : decode k_X10_text.2.1 20 = .ok (.ireturn, 1) := by decide +kernel
theorem dX10_text_21 : decode k_X10_text.2.1 21 = .ok (.aload_n 0, 1) := by decide +kernel
theorem dX10_text_22 : decode k_X10_text.2.1 22 = .ok (.invokevirtual 171, 3) := by decide +kernel
theorem dX10_text_25 : decode k_X10_text.2.1 25 = .ok (.iconst 0, 1) := by decide +kernel
theorem dX10_text_26 : decode k_X10_text.2.1 26 = .ok (.istore_n 3, 1) := by decide +kernel
theorem dX10_text_27 : decode k_X10_text.2.1 27 = .ok (.iload_n 3, 1) := by decide +kernel
theorem dX10_text_28 : decode k_X10_text.2.1 28 = .ok (.sipush 1021, 3) := by decide +kernel
theorem dX10_text_31 : decode k_X10_text.2.1 31 = .ok (.if_icmp .ge 16, 3) := by decide +kernel
theorem dX10_text_34 : decode k_X10_text.2.1 34 = .ok (.aload_n 0, 1) := by decide +kernel
theorem dX10_text_35 : decode k_X10_text.2.1 35 = .ok (.getfield 13, 3) := by decide +kernel
theorem dX10_text_38 : decode k_X10_text.2.1 38 = .ok (.iload_n 3, 1) := by decide +kernel
theorem dX10_text_39 : decode k_X10_text.2.1 39 = .ok (.iconst 0, 1) := by decide +kernel
theorem dX10_text_40 : decode k_X10_text.2.1 40 = .ok (.iastore, 1) := by decide +kernel
theorem dX10_text_41 : decode k_X10_text.2.1 41 = .ok (.iinc 3 1, 3) := by decide +kernel
theorem dX10_text_44 : decode k_X10_text.2.1 44 = .ok (.goto (-17), 3) := by decide +kernel
theorem dX10_text_47 : decode k_X10_text.2.1 47 = .ok (.iconst 0, 1) := by decide +kernel
theorem dX10_text_48 : decode k_X10_text.2.1 48 = .ok (.istore_n 3, 1) := by decide +kernel
theorem dX10_text_49 : decode k_X10_text.2.1 49 = .ok (.iload_n 3, 1) := by decide +kernel
theorem dX10_text_50 : decode k_X10_text.2.1 50 = .ok (.iload_n 1, 1) := by decide +kernel
theorem dX10_text_51 : decode k_X10_text.2.1 51 = .ok (.if_icmp .ge 26, 3) := by decide +kernel
theorem dX10_text_54 : decode k_X10_text.2.1 54 = .ok (.aload_n 0, 1) := by decide +kernel
theorem dX10_text_55 : decode k_X10_text.2.1 55 = .ok (.getfield 13, 3) := by decide +kernel
theorem dX10_text_58 : decode k_X10_text.2.1 58 = .ok (.iconst 1, 1) := by decide +kernel
theorem dX10_text_59 : decode k_X10_text.2.1 59 = .ok (.iload_n 3, 1) := by decide +kernel
theorem dX10_text_60 : decode k_X10_text.2.1 60 = .ok (.iadd, 1) := by decide +kernel
theorem dX10_text_61 : decode k_X10_text.2.1 61 = .ok (.aload_n 0, 1) := by decide +kernel
theorem dX10_text_62 : decode k_X10_text.2.1 62 = .ok (.getfield 42, 3) := by decide +kernel
theorem dX10_text_65 : decode k_X10_text.2.1 65 = .ok (.iload_n 3, 1) := by decide +kernel
theorem dX10_text_66 : decode k_X10_text.2.1 66 = .ok (.baload, 1) := by decide +kernel
theorem dX10_text_67 : decode k_X10_text.2.1 67 = .ok (.bipush 97, 2) := by decide +kernel
theorem dX10_text_69 : decode k_X10_text.2.1 69 = .ok (.isub, 1) := by decide +kernel
theorem dX10_text_70 : decode k_X10_text.2.1 70 = .ok (.iastore, 1) := by decide +kernel
theorem dX10_text_71 : decode k_X10_text.2.1 71 = .ok (.iinc 3 1, 3) := by decide +kernel
theorem dX10_text_74 : decode k_X10_text.2.1 74 = .ok (.goto (-25), 3) := by decide +kernel
theorem dX10_text_77 : decode k_X10_text.2.1 77 = .ok (.aload_n 0, 1) := by decide +kernel
theorem dX10_text_78 : decode k_X10_text.2.1 78 = .ok (.getfield 13, 3) := by decide +kernel
theorem dX10_text_81 : decode k_X10_text.2.1 81 = .ok (.iconst 0, 1) := by decide +kernel
theorem dX10_text_82 : decode k_X10_text.2.1 82 = .ok (.iload_n 1, 1) := by decide +kernel
theorem dX10_text_83 : decode k_X10_text.2.1 83 = .ok (.iastore, 1) := by decide +kernel
theorem dX10_text_84 : decode k_X10_text.2.1 84 = .ok (.iload_n 1, 1) := by decide +kernel
theorem dX10_text_85 : decode k_X10_text.2.1 85 = .ok (.ireturn, 1) := by decide +kernel
theorem dX10_phrase_0 : decode k_X10_phrase.2.1 0 = .ok (.aload_n 0, 1) := by decide +kernel
theorem dX10_phrase_1 : decode k_X10_phrase.2.1 1 = .ok (.iconst 0, 1) := by decide +kernel
theorem dX10_phrase_2 : decode k_X10_phrase.2.1 2 = .ok (.putfield 1, 3) := by decide +kernel
theorem dX10_phrase_5 : decode k_X10_phrase.2.1 5 = .ok (.aload_n 0, 1) := by decide +kernel
theorem dX10_phrase_6 : decode k_X10_phrase.2.1 6 = .ok (.iload_n 1, 1) := by decide +kernel
theorem dX10_phrase_7 : decode k_X10_phrase.2.1 7 = .ok (.iconst 1, 1) := by decide +kernel
theorem dX10_phrase_8 : decode k_X10_phrase.2.1 8 = .ok (.bipush 20, 2) := by decide +kernel
theorem dX10_phrase_10 : decode k_X10_phrase.2.1 10 = .ok (.invokevirtual 217, 3) := by decide +kernel
theorem dX10_phrase_13 : decode k_X10_phrase.2.1 13 = .ok (.istore_n 2, 1) := by decide +kernel
theorem dX10_phrase_14 : decode k_X10_phrase.2.1 14 = .ok (.iload_n 2, 1) := by decide +kernel
theorem dX10_phrase_15 : decode k_X10_phrase.2.1 15 = .ok (.ifCond .eq 5, 3) := by decide +kernel
theorem dX10_phrase_18 : decode k_X10_phrase.2.1 18 = .ok (.iload_n 2, 1) := by decide +kernel
theorem dX10_phrase_19 : decode k_X10_phrase.2.1 19 = .ok (.ireturn, 1) := by decide +kernel
theorem dX10_phrase_20 : decode k_X10_phrase.2.1 20 = .ok (.iconst 0, 1) := by decide +kernel
theorem dX10_phrase_21 : decode k_X10_phrase.2.1 21 = .ok (.istore_n 3, 1) := by decide +kernel
theorem dX10_phrase_22 : decode k_X10_phrase.2.1 22 = .ok (.iload_n 3, 1) := by decide +kernel
theorem dX10_phrase_23 : decode k_X10_phrase.2.1 23 = .ok (.iload_n 1, 1) := by decide +kernel
theorem dX10_phrase_24 : decode k_X10_phrase.2.1 24 = .ok (.if_icmp .ge 24, 3) := by decide +kernel
theorem dX10_phrase_27 : decode k_X10_phrase.2.1 27 = .ok (.aload_n 0, 1) := by decide +kernel
theorem dX10_phrase_28 : decode k_X10_phrase.2.1 28 = .ok (.getfield 49, 3) := by decide +kernel
theorem dX10_phrase_31 : decode k_X10_phrase.2.1 31 = .ok (.iload_n 3, 1) := by decide +kernel
theorem dX10_phrase_32 : decode k_X10_phrase.2.1 32 = .ok (.aload_n 0, 1) := by decide +kernel
theorem dX10_phrase_33 : decode k_X10_phrase.2.1 33 = .ok (.getfield 42, 3) := by decide +kernel
theorem dX10_phrase_36 : decode k_X10_phrase.2.1 36 = .ok (.iload_n 3, 1) := by decide +kernel
theorem dX10_phrase_37 : decode k_X10_phrase.2.1 37 = .ok (.baload, 1) := by decide +kernel
theorem dX10_phrase_38 : decode k_X10_phrase.2.1 38 = .ok (.bipush 97, 2) := by decide +kernel
theorem dX10_phrase_40 : decode k_X10_phrase.2.1 40 = .ok (.isub, 1) := by decide +kernel
theorem dX10_phrase_41 : decode k_X10_phrase.2.1 41 = .ok (.iastore, 1) := by decide +kernel
theorem dX10_phrase_42 : decode k_X10_phrase.2.1 42 = .ok (.iinc 3 1, 3) := by decide +kernel
theorem dX10_phrase_45 : decode k_X10_phrase.2.1 45 = .ok (.goto (-23), 3) := by decide +kernel
theorem dX10_phrase_48 : decode k_X10_phrase.2.1 48 = .ok (.aload_n 0, 1) := by decide +kernel
theorem dX10_phrase_49 : decode k_X10_phrase.2.1 49 = .ok (.iload_n 1, 1) := by decide +kernel
theorem dX10_phrase_50 : decode k_X10_phrase.2.1 50 = .ok (.putfield 221, 3) := by decide +kernel
theorem dX10_phrase_53 : decode k_X10_phrase.2.1 53 = .ok (.aload_n 0, 1) := by decide +kernel
theorem dX10_phrase_54 : decode k_X10_phrase.2.1 54 = .ok (.invokevirtual 224, 3) := by decide +kernel
theorem dX10_phrase_57 : decode k_X10_phrase.2.1 57 = .ok (.aload_n 0, 1) := by decide +kernel
theorem dX10_phrase_58 : decode k_X10_phrase.2.1 58 = .ok (.invokevirtual 227, 3) := by decide +kernel
theorem dX10_phrase_61 : decode k_X10_phrase.2.1 61 = .ok (.ireturn, 1) := by decide +kernel
theorem dX10_fault_0 : decode k_X10_fault.2.1 0 = .ok (.aload_n 0, 1) := by decide +kernel
theorem dX10_fault_1 : decode k_X10_fault.2.1 1 = .ok (.iconst 0, 1) := by decide +kernel
theorem dX10_fault_2 : decode k_X10_fault.2.1 2 = .ok (.putfield 1, 3) := by decide +kernel
theorem dX10_fault_5 : decode k_X10_fault.2.1 5 = .ok (.iload_n 1, 1) := by decide +kernel
theorem dX10_fault_6 : decode k_X10_fault.2.1 6 = .ok (.ifCond .ne 10, 3) := by decide +kernel
theorem dX10_fault_9 : decode k_X10_fault.2.1 9 = .ok (.aload_n 0, 1) := by decide +kernel
theorem dX10_fault_10 : decode k_X10_fault.2.1 10 = .ok (.getfield 140, 3) := by decide +kernel
theorem dX10_fault_13 : decode k_X10_fault.2.1 13 = .ok (.goto 16, 3) := by decide +kernel
theorem dX10_fault_16 : decode k_X10_fault.2.1 16 = .ok (.iload_n 1, 1) := by decide +kernel
theorem dX10_fault_17 : decode k_X10_fault.2.1 17 = .ok (.iconst 1, 1) := by decide +kernel
theorem dX10_fault_18 : decode k_X10_fault.2.1 18 = .ok (.if_icmp .ne 10, 3) := by decide +kernel
theorem dX10_fault_21 : decode k_X10_fault.2.1 21 = .ok (.aload_n 0, 1) := by decide +kernel
theorem dX10_fault_22 : decode k_X10_fault.2.1 22 = .ok (.getfield 46, 3) := by decide +kernel
theorem dX10_fault_25 : decode k_X10_fault.2.1 25 = .ok (.goto 4, 3) := by decide +kernel
theorem dX10_fault_28 : decode k_X10_fault.2.1 28 = .ok (.iconst (-1), 1) := by decide +kernel
theorem dX10_fault_29 : decode k_X10_fault.2.1 29 = .ok (.ireturn, 1) := by decide +kernel
theorem dX10_countOf_0 : decode k_X10_countOf.2.1 0 = .ok (.iconst 0, 1) := by decide +kernel
theorem dX10_countOf_1 : decode k_X10_countOf.2.1 1 = .ok (.istore_n 3, 1) := by decide +kernel
theorem dX10_countOf_2 : decode k_X10_countOf.2.1 2 = .ok (.iconst 0, 1) := by decide +kernel
theorem dX10_countOf_3 : decode k_X10_countOf.2.1 3 = .ok (.istore 4, 2) := by decide +kernel
theorem dX10_countOf_5 : decode k_X10_countOf.2.1 5 = .ok (.iload 4, 2) := by decide +kernel
theorem dX10_countOf_7 : decode k_X10_countOf.2.1 7 = .ok (.iconst 1, 1) := by decide +kernel
theorem dX10_countOf_8 : decode k_X10_countOf.2.1 8 = .ok (.iadd, 1) := by decide +kernel
theorem dX10_countOf_9 : decode k_X10_countOf.2.1 9 = .ok (.aload_n 0, 1) := by decide +kernel
theorem dX10_countOf_10 : decode k_X10_countOf.2.1 10 = .ok (.invokevirtual 123, 3) := by decide +kernel
theorem dX10_countOf_13 : decode k_X10_countOf.2.1 13 = .ok (.if_icmp .ge 63, 3) := by decide +kernel
theorem dX10_countOf_16 : decode k_X10_countOf.2.1 16 = .ok (.aload_n 0, 1) := by decide +kernel
theorem dX10_countOf_17 : decode k_X10_countOf.2.1 17 = .ok (.iload 4, 2) := by decide +kernel
theorem dX10_countOf_19 : decode k_X10_countOf.2.1 19 = .ok (.invokevirtual 127, 3) := by decide +kernel
theorem dX10_countOf_22 : decode k_X10_countOf.2.1 22 = .ok (.iload_n 1, 1) := by decide +kernel
theorem dX10_countOf_23 : decode k_X10_countOf.2.1 23 = .ok (.if_icmp .ne 19, 3) := by decide +kernel
theorem dX10_countOf_26 : decode k_X10_countOf.2.1 26 = .ok (.aload_n 0, 1) := by decide +kernel
theorem dX10_countOf_27 : decode k_X10_countOf.2.1 27 = .ok (.iload 4, 2) := by decide +kernel
theorem dX10_countOf_29 : decode k_X10_countOf.2.1 29 = .ok (.iconst 1, 1) := by decide +kernel
theorem dX10_countOf_30 : decode k_X10_countOf.2.1 30 = .ok (.iadd, 1) := by decide +kernel
theorem dX10_countOf_31 : decode k_X10_countOf.2.1 31 = .ok (.invokevirtual 127, 3) := by decide +kernel
theorem dX10_countOf_34 : decode k_X10_countOf.2.1 34 = .ok (.iload_n 2, 1) := by decide +kernel
theorem dX10_countOf_35 : decode k_X10_countOf.2.1 35 = .ok (.if_icmp .ne 7, 3) := by decide +kernel
theorem dX10_countOf_38 : decode k_X10_countOf.2.1 38 = .ok (.iconst 1, 1) := by decide +kernel
theorem dX10_countOf_39 : decode k_X10_countOf.2.1 39 = .ok (.goto 4, 3) := by decide +kernel
theorem dX10_countOf_42 : decode k_X10_countOf.2.1 42 = .ok (.iconst 0, 1) := by decide +kernel
theorem dX10_countOf_43 : decode k_X10_countOf.2.1 43 = .ok (.istore 5, 2) := by decide +kernel
theorem dX10_countOf_45 : decode k_X10_countOf.2.1 45 = .ok (.iload_n 3, 1) := by decide +kernel
theorem dX10_countOf_46 : decode k_X10_countOf.2.1 46 = .ok (.iload 5, 2) := by decide +kernel
theorem dX10_countOf_48 : decode k_X10_countOf.2.1 48 = .ok (.ifCond .eq 7, 3) := by decide +kernel
theorem dX10_countOf_51 : decode k_X10_countOf.2.1 51 = .ok (.iconst 1, 1) := by decide +kernel
theorem dX10_countOf_52 : decode k_X10_countOf.2.1 52 = .ok (.goto 4, 3) := by decide +kernel
theorem dX10_countOf_55 : decode k_X10_countOf.2.1 55 = .ok (.iconst 0, 1) := by decide +kernel
theorem dX10_countOf_56 : decode k_X10_countOf.2.1 56 = .ok (.iadd, 1) := by decide +kernel
theorem dX10_countOf_57 : decode k_X10_countOf.2.1 57 = .ok (.istore_n 3, 1) := by decide +kernel
theorem dX10_countOf_58 : decode k_X10_countOf.2.1 58 = .ok (.iload 4, 2) := by decide +kernel
theorem dX10_countOf_60 : decode k_X10_countOf.2.1 60 = .ok (.iload 5, 2) := by decide +kernel
theorem dX10_countOf_62 : decode k_X10_countOf.2.1 62 = .ok (.ifCond .eq 7, 3) := by decide +kernel
theorem dX10_countOf_65 : decode k_X10_countOf.2.1 65 = .ok (.iconst 2, 1) := by decide +kernel
theorem dX10_countOf_66 : decode k_X10_countOf.2.1 66 = .ok (.goto 4, 3) := by decide +kernel
theorem dX10_countOf_69 : decode k_X10_countOf.2.1 69 = .ok (.iconst 1, 1) := by decide +kernel
theorem dX10_countOf_70 : decode k_X10_countOf.2.1 70 = .ok (.iadd, 1) := by decide +kernel
theorem dX10_countOf_71 : decode k_X10_countOf.2.1 71 = .ok (.istore 4, 2) := by decide +kernel
theorem dX10_countOf_73 : decode k_X10_countOf.2.1 73 = .ok (.goto (-68), 3) := by decide +kernel
theorem dX10_countOf_76 : decode k_X10_countOf.2.1 76 = .ok (.iload_n 3, 1) := by decide +kernel
theorem dX10_countOf_77 : decode k_X10_countOf.2.1 77 = .ok (.ireturn, 1) := by decide +kernel
theorem dX10_ruleOf_0 : decode k_X10_ruleOf.2.1 0 = .ok (.bipush 26, 2) := by decide +kernel
theorem dX10_ruleOf_2 : decode k_X10_ruleOf.2.1 2 = .ok (.istore_n 3, 1) := by decide +kernel
theorem dX10_ruleOf_3 : decode k_X10_ruleOf.2.1 3 = .ok (.iload_n 3, 1) := by decide +kernel
theorem dX10_ruleOf_4 : decode k_X10_ruleOf.2.1 4 = .ok (.bipush 86, 2) := by decide +kernel
theorem dX10_ruleOf_6 : decode k_X10_ruleOf.2.1 6 = .ok (.if_icmp .ge 40, 3) := by decide +kernel
theorem dX10_ruleOf_9 : decode k_X10_ruleOf.2.1 9 = .ok (.aload_n 0, 1) := by decide +kernel
theorem dX10_ruleOf_10 : decode k_X10_ruleOf.2.1 10 = .ok (.iload_n 3, 1) := by decide +kernel
theorem dX10_ruleOf_11 : decode k_X10_ruleOf.2.1 11 = .ok (.invokevirtual 106, 3) := by decide +kernel
theorem dX10_ruleOf_14 : decode k_X10_ruleOf.2.1 14 = .ok (.iconst 2, 1) := by decide +kernel
theorem dX10_ruleOf_15 : decode k_X10_ruleOf.2.1 15 = .ok (.if_icmp .ne 25, 3) := by decide +kernel
theorem dX10_ruleOf_18 : decode k_X10_ruleOf.2.1 18 = .ok (.aload_n 0, 1) := by decide +kernel
theorem dX10_ruleOf_19 : decode k_X10_ruleOf.2.1 19 = .ok (.iload_n 3, 1) := by decide +kernel
theorem dX10_ruleOf_20 : decode k_X10_ruleOf.2.1 20 = .ok (.iconst 0, 1) := by decide +kernel
theorem dX10_ruleOf_21 : decode k_X10_ruleOf.2.1 21 = .ok (.invokevirtual 113, 3) := by decide +kernel
theorem dX10_ruleOf_24 : decode k_X10_ruleOf.2.1 24 = .ok (.iload_n 1, 1) := by decide +kernel
theorem dX10_ruleOf_25 : decode k_X10_ruleOf.2.1 25 = .ok (.if_icmp .ne 15, 3) := by decide +kernel
theorem dX10_ruleOf_28 : decode k_X10_ruleOf.2.1 28 = .ok (.aload_n 0, 1) := by decide +kernel
theorem dX10_ruleOf_29 : decode k_X10_ruleOf.2.1 29 = .ok (.iload_n 3, 1) := by decide +kernel
theorem dX10_ruleOf_30 : decode k_X10_ruleOf.2.1 30 = .ok (.iconst 1, 1) := by decide +kernel
theorem dX10_ruleOf_31 : decode k_X10_ruleOf.2.1 31 = .ok (.invokevirtual 113, 3) := by decide +kernel
theorem dX10_ruleOf_34 : decode k_X10_ruleOf.2.1 34 = .ok (.iload_n 2, 1) := by decide +kernel
theorem dX10_ruleOf_35 : decode k_X10_ruleOf.2.1 35 = .ok (.if_icmp .ne 5, 3) := by decide +kernel
theorem dX10_ruleOf_38 : decode k_X10_ruleOf.2.1 38 = .ok (.iload_n 3, 1) := by decide +kernel
theorem dX10_ruleOf_39 : decode k_X10_ruleOf.2.1 39 = .ok (.ireturn, 1) := by decide +kernel
theorem dX10_ruleOf_40 : decode k_X10_ruleOf.2.1 40 = .ok (.iinc 3 1, 3) := by decide +kernel
theorem dX10_ruleOf_43 : decode k_X10_ruleOf.2.1 43 = .ok (.goto (-40), 3) := by decide +kernel
theorem dX10_ruleOf_46 : decode k_X10_ruleOf.2.1 46 = .ok (.iconst (-1), 1) := by decide +kernel
theorem dX10_ruleOf_47 : decode k_X10_ruleOf.2.1 47 = .ok (.ireturn, 1) := by decide +kernel
theorem dX10_freeSign_0 : decode k_X10_freeSign.2.1 0 = .ok (.bipush 26, 2) := by decide +kernel
theorem dX10_freeSign_2 : decode k_X10_freeSign.2.1 2 = .ok (.istore_n 1, 1) := by decide +kernel
theorem dX10_freeSign_3 : decode k_X10_freeSign.2.1 3 = .ok (.iload_n 1, 1) := by decide +kernel
theorem dX10_freeSign_4 : decode k_X10_freeSign.2.1 4 = .ok (.bipush 86, 2) := by decide +kernel
theorem dX10_freeSign_6 : decode k_X10_freeSign.2.1 6 = .ok (.if_icmp .ge 19, 3) := by decide +kernel
theorem dX10_freeSign_9 : decode k_X10_freeSign.2.1 9 = .ok (.aload_n 0, 1) := by decide +kernel
theorem dX10_freeSign_10 : decode k_X10_freeSign.2.1 10 = .ok (.iload_n 1, 1) := by decide +kernel
theorem dX10_freeSign_11 : decode k_X10_freeSign.2.1 11 = .ok (.invokevirtual 106, 3) := by decide +kernel
theorem dX10_freeSign_14 : decode k_X10_freeSign.2.1 14 = .ok (.ifCond .ne 5, 3) := by decide +kernel
theorem dX10_freeSign_17 : decode k_X10_freeSign.2.1 17 = .ok (.iload_n 1, 1) := by decide +kernel
theorem dX10_freeSign_18 : decode k_X10_freeSign.2.1 18 = .ok (.ireturn, 1) := by decide +kernel
theorem dX10_freeSign_19 : decode k_X10_freeSign.2.1 19 = .ok (.iinc 1 1, 3) := by decide +kernel
theorem dX10_freeSign_22 : decode k_X10_freeSign.2.1 22 = .ok (.goto (-19), 3) := by decide +kernel
theorem dX10_freeSign_25 : decode k_X10_freeSign.2.1 25 = .ok (.iconst (-1), 1) := by decide +kernel
theorem dX10_freeSign_26 : decode k_X10_freeSign.2.1 26 = .ok (.ireturn, 1) := by decide +kernel
theorem dX10_canReplace_0 : decode k_X10_canReplace.2.1 0 = .ok (.aload_n 0, 1) := by decide +kernel
theorem dX10_canReplace_1 : decode k_X10_canReplace.2.1 1 = .ok (.iload_n 1, 1) := by decide +kernel
theorem dX10_canReplace_2 : decode k_X10_canReplace.2.1 2 = .ok (.iload_n 2, 1) := by decide +kernel
theorem dX10_canReplace_3 : decode k_X10_canReplace.2.1 3 = .ok (.invokevirtual 230, 3) := by decide +kernel
theorem dX10_canReplace_6 : decode k_X10_canReplace.2.1 6 = .ok (.iconst (-1), 1) := by decide +kernel
theorem dX10_canReplace_7 : decode k_X10_canReplace.2.1 7 = .ok (.if_icmp .ne 11, 3) := by decide +kernel
theorem dX10_canReplace_10 : decode k_X10_canReplace.2.1 10 = .ok (.aload_n 0, 1) := by decide +kernel
theorem dX10_canReplace_11 : decode k_X10_canReplace.2.1 11 = .ok (.invokevirtual 233, 3) := by decide +kernel
theorem dX10_canReplace_14 : decode k_X10_canReplace.2.1 14 = .ok (.iconst (-1), 1) := by decide +kernel
theorem dX10_canReplace_15 : decode k_X10_canReplace.2.1 15 = .ok (.if_icmp .eq 7, 3) := by decide +kernel
theorem dX10_canReplace_18 : decode k_X10_canReplace.2.1 18 = .ok (.iconst 1, 1) := by decide +kernel
theorem dX10_canReplace_19 : decode k_X10_canReplace.2.1 19 = .ok (.goto 4, 3) := by decide +kernel
theorem dX10_canReplace_22 : decode k_X10_canReplace.2.1 22 = .ok (.iconst 0, 1) := by decide +kernel
theorem dX10_canReplace_23 : decode k_X10_canReplace.2.1 23 = .ok (.ireturn, 1) := by decide +kernel
theorem dX10_replaces_0 : decode k_X10_replaces.2.1 0 = .ok (.aload_n 0, 1) := by decide +kernel
theorem dX10_replaces_1 : decode k_X10_replaces.2.1 1 = .ok (.iload_n 1, 1) := by decide +kernel
theorem dX10_replaces_2 : decode k_X10_replaces.2.1 2 = .ok (.iload_n 2, 1) := by decide +kernel
theorem dX10_replaces_3 : decode k_X10_replaces.2.1 3 = .ok (.invokevirtual 230, 3) := by decide +kernel
theorem dX10_replaces_6 : decode k_X10_replaces.2.1 6 = .ok (.istore_n 3, 1) := by decide +kernel
theorem dX10_replaces_7 : decode k_X10_replaces.2.1 7 = .ok (.iload_n 3, 1) := by decide +kernel
theorem dX10_replaces_8 : decode k_X10_replaces.2.1 8 = .ok (.iconst (-1), 1) := by decide +kernel
theorem dX10_replaces_9 : decode k_X10_replaces.2.1 9 = .ok (.if_icmp .ne 42, 3) := by decide +kernel
theorem dX10_replaces_12 : decode k_X10_replaces.2.1 12 = .ok (.aload_n 0, 1) := by decide +kernel
theorem dX10_replaces_13 : decode k_X10_replaces.2.1 13 = .ok (.invokevirtual 233, 3) := by decide +kernel
theorem dX10_replaces_16 : decode k_X10_replaces.2.1 16 = .ok (.istore_n 3, 1) := by decide +kernel
theorem dX10_replaces_17 : decode k_X10_replaces.2.1 17 = .ok (.aload_n 0, 1) := by decide +kernel
theorem dX10_replaces_18 : decode k_X10_replaces.2.1 18 = .ok (.getfield 13, 3) := by decide +kernel
theorem dX10_replaces_21 : decode k_X10_replaces.2.1 21 = .ok (.iload_n 3, 1) := by decide +kernel
theorem dX10_replaces_22 : decode k_X10_replaces.2.1 22 = .ok (.invokestatic 92, 3) := by decide +kernel
theorem dX10_replaces_25 : decode k_X10_replaces.2.1 25 = .ok (.iconst 2, 1) := by decide +kernel
theorem dX10_replaces_26 : decode k_X10_replaces.2.1 26 = .ok (.iastore, 1) := by decide +kernel
theorem dX10_replaces_27 : decode k_X10_replaces.2.1 27 = .ok (.aload_n 0, 1) := by decide +kernel
theorem dX10_replaces_28 : decode k_X10_replaces.2.1 28 = .ok (.getfield 13, 3) := by decide +kernel
theorem dX10_replaces_31 : decode k_X10_replaces.2.1 31 = .ok (.iload_n 3, 1) := by decide +kernel
theorem dX10_replaces_32 : decode k_X10_replaces.2.1 32 = .ok (.invokestatic 92, 3) := by decide +kernel
theorem dX10_replaces_35 : decode k_X10_replaces.2.1 35 = .ok (.iconst 1, 1) := by decide +kernel
theorem dX10_replaces_36 : decode k_X10_replaces.2.1 36 = .ok (.iadd, 1) := by decide +kernel
theorem dX10_replaces_37 : decode k_X10_replaces.2.1 37 = .ok (.iload_n 1, 1) := by decide +kernel
theorem dX10_replaces_38 : decode k_X10_replaces.2.1 38 = .ok (.iastore, 1) := by decide +kernel
theorem dX10_replaces_39 : decode k_X10_replaces.2.1 39 = .ok (.aload_n 0, 1) := by decide +kernel
theorem dX10_replaces_40 : decode k_X10_replaces.2.1 40 = .ok (.getfield 13, 3) := by decide +kernel
theorem dX10_replaces_43 : decode k_X10_replaces.2.1 43 = .ok (.iload_n 3, 1) := by decide +kernel
theorem dX10_replaces_44 : decode k_X10_replaces.2.1 44 = .ok (.invokestatic 92, 3) := by decide +kernel
theorem dX10_replaces_47 : decode k_X10_replaces.2.1 47 = .ok (.iconst 2, 1) := by decide +kernel
theorem dX10_replaces_48 : decode k_X10_replaces.2.1 48 = .ok (.iadd, 1) := by decide +kernel
theorem dX10_replaces_49 : decode k_X10_replaces.2.1 49 = .ok (.iload_n 2, 1) := by decide +kernel
theorem dX10_replaces_50 : decode k_X10_replaces.2.1 50 = .ok (.iastore, 1) := by decide +kernel
theorem dX10_replaces_51 : decode k_X10_replaces.2.1 51 = .ok (.iconst 0, 1) := by decide +kernel
theorem dX10_replaces_52 : decode k_X10_replaces.2.1 52 = .ok (.istore 4, 2) := by decide +kernel
theorem dX10_replaces_54 : decode k_X10_replaces.2.1 54 = .ok (.iconst 0, 1) := by decide +kernel
theorem dX10_replaces_55 : decode k_X10_replaces.2.1 55 = .ok (.istore 5, 2) := by decide +kernel
theorem dX10_replaces_57 : decode k_X10_replaces.2.1 57 = .ok (.iload 5, 2) := by decide +kernel
theorem dX10_replaces_59 : decode k_X10_replaces.2.1 59 = .ok (.aload_n 0, 1) := by decide +kernel
theorem dX10_replaces_60 : decode k_X10_replaces.2.1 60 = .ok (.invokevirtual 123, 3) := by decide +kernel
theorem dX10_replaces_63 : decode k_X10_replaces.2.1 63 = .ok (.if_icmp .ge 88, 3) := by decide +kernel
theorem dX10_replaces_66 : decode k_X10_replaces.2.1 66 = .ok (.iload 5, 2) := by decide +kernel
theorem dX10_replaces_68 : decode k_X10_replaces.2.1 68 = .ok (.iconst 1, 1) := by decide +kernel
theorem dX10_replaces_69 : decode k_X10_replaces.2.1 69 = .ok (.iadd, 1) := by decide +kernel
theorem dX10_replaces_70 : decode k_X10_replaces.2.1 70 = .ok (.aload_n 0, 1) := by decide +kernel
theorem dX10_replaces_71 : decode k_X10_replaces.2.1 71 = .ok (.invokevirtual 123, 3) := by decide +kernel
theorem dX10_replaces_74 : decode k_X10_replaces.2.1 74 = .ok (.if_icmp .ge 29, 3) := by decide +kernel
theorem dX10_replaces_77 : decode k_X10_replaces.2.1 77 = .ok (.aload_n 0, 1) := by decide +kernel
theorem dX10_replaces_78 : decode k_X10_replaces.2.1 78 = .ok (.iload 5, 2) := by decide +kernel
theorem dX10_replaces_80 : decode k_X10_replaces.2.1 80 = .ok (.invokevirtual 127, 3) := by decide +kernel
theorem dX10_replaces_83 : decode k_X10_replaces.2.1 83 = .ok (.iload_n 1, 1) := by decide +kernel
theorem dX10_replaces_84 : decode k_X10_replaces.2.1 84 = .ok (.if_icmp .ne 19, 3) := by decide +kernel
theorem dX10_replaces_87 : decode k_X10_replaces.2.1 87 = .ok (.aload_n 0, 1) := by decide +kernel
theorem dX10_replaces_88 : decode k_X10_replaces.2.1 88 = .ok (.iload 5, 2) := by decide +kernel
theorem dX10_replaces_90 : decode k_X10_replaces.2.1 90 = .ok (.iconst 1, 1) := by decide +kernel
theorem dX10_replaces_91 : decode k_X10_replaces.2.1 91 = .ok (.iadd, 1) := by decide +kernel
theorem dX10_replaces_92 : decode k_X10_replaces.2.1 92 = .ok (.invokevirtual 127, 3) := by decide +kernel
theorem dX10_replaces_95 : decode k_X10_replaces.2.1 95 = .ok (.iload_n 2, 1) := by decide +kernel
theorem dX10_replaces_96 : decode k_X10_replaces.2.1 96 = .ok (.if_icmp .ne 7, 3) := by decide +kernel
theorem dX10_replaces_99 : decode k_X10_replaces.2.1 99 = .ok (.iconst 1, 1) := by decide +kernel
theorem dX10_replaces_100 : decode k_X10_replaces.2.1 100 = .ok (.goto 4, 3) := by decide +kernel
theorem dX10_replaces_103 : decode k_X10_replaces.2.1 103 = .ok (.iconst 0, 1) := by decide +kernel
theorem dX10_replaces_104 : decode k_X10_replaces.2.1 104 = .ok (.istore 6, 2) := by decide +kernel
theorem dX10_replaces_106 : decode k_X10_replaces.2.1 106 = .ok (.aload_n 0, 1) := by decide +kernel
theorem dX10_replaces_107 : decode k_X10_replaces.2.1 107 = .ok (.getfield 13, 3) := by decide +kernel
theorem dX10_replaces_110 : decode k_X10_replaces.2.1 110 = .ok (.iconst 1, 1) := by decide +kernel
theorem dX10_replaces_111 : decode k_X10_replaces.2.1 111 = .ok (.iload 4, 2) := by decide +kernel
theorem dX10_replaces_113 : decode k_X10_replaces.2.1 113 = .ok (.iadd, 1) := by decide +kernel
theorem dX10_replaces_114 : decode k_X10_replaces.2.1 114 = .ok (.iload 6, 2) := by decide +kernel
theorem dX10_replaces_116 : decode k_X10_replaces.2.1 116 = .ok (.ifCond .eq 7, 3) := by decide +kernel
theorem dX10_replaces_119 : decode k_X10_replaces.2.1 119 = .ok (.iload_n 3, 1) := by decide +kernel
theorem dX10_replaces_120 : decode k_X10_replaces.2.1 120 = .ok (.goto 9, 3) := by decide +kernel
theorem dX10_replaces_123 : decode k_X10_replaces.2.1 123 = .ok (.aload_n 0, 1) := by decide +kernel
theorem dX10_replaces_124 : decode k_X10_replaces.2.1 124 = .ok (.iload 5, 2) := by decide +kernel
theorem dX10_replaces_126 : decode k_X10_replaces.2.1 126 = .ok (.invokevirtual 127, 3) := by decide +kernel
theorem dX10_replaces_129 : decode k_X10_replaces.2.1 129 = .ok (.iastore, 1) := by decide +kernel
theorem dX10_replaces_130 : decode k_X10_replaces.2.1 130 = .ok (.iinc 4 1, 3) := by decide +kernel
theorem dX10_replaces_133 : decode k_X10_replaces.2.1 133 = .ok (.iload 5, 2) := by decide +kernel
theorem dX10_replaces_135 : decode k_X10_replaces.2.1 135 = .ok (.iload 6, 2) := by decide +kernel
theorem dX10_replaces_137 : decode k_X10_replaces.2.1 137 = .ok (.ifCond .eq 7, 3) := by decide +kernel
theorem dX10_replaces_140 : decode k_X10_replaces.2.1 140 = .ok (.iconst 2, 1) := by decide +kernel
theorem dX10_replaces_141 : decode k_X10_replaces.2.1 141 = .ok (.goto 4, 3) := by decide +kernel
theorem dX10_replaces_144 : decode k_X10_replaces.2.1 144 = .ok (.iconst 1, 1) := by decide +kernel
theorem dX10_replaces_145 : decode k_X10_replaces.2.1 145 = .ok (.iadd, 1) := by decide +kernel
theorem dX10_replaces_146 : decode k_X10_replaces.2.1 146 = .ok (.istore 5, 2) := by decide +kernel
theorem dX10_replaces_148 : decode k_X10_replaces.2.1 148 = .ok (.goto (-91), 3) := by decide +kernel
theorem dX10_replaces_151 : decode k_X10_replaces.2.1 151 = .ok (.aload_n 0, 1) := by decide +kernel
theorem dX10_replaces_152 : decode k_X10_replaces.2.1 152 = .ok (.getfield 13, 3) := by decide +kernel
theorem dX10_replaces_155 : decode k_X10_replaces.2.1 155 = .ok (.iconst 0, 1) := by decide +kernel
theorem dX10_replaces_156 : decode k_X10_replaces.2.1 156 = .ok (.iload 4, 2) := by decide +kernel
theorem dX10_replaces_158 : decode k_X10_replaces.2.1 158 = .ok (.iastore, 1) := by decide +kernel
theorem dX10_replaces_159 : decode k_X10_replaces.2.1 159 = .ok (.iload_n 3, 1) := by decide +kernel
theorem dX10_replaces_160 : decode k_X10_replaces.2.1 160 = .ok (.ireturn, 1) := by decide +kernel
theorem dX10_laysCounts_0 : decode k_X10_laysCounts.2.1 0 = .ok (.iconst 0, 1) := by decide +kernel
theorem dX10_laysCounts_1 : decode k_X10_laysCounts.2.1 1 = .ok (.istore_n 1, 1) := by decide +kernel
theorem dX10_laysCounts_2 : decode k_X10_laysCounts.2.1 2 = .ok (.iload_n 1, 1) := by decide +kernel
theorem dX10_laysCounts_3 : decode k_X10_laysCounts.2.1 3 = .ok (.sipush 7396, 3) := by decide +kernel
theorem dX10_laysCounts_6 : decode k_X10_laysCounts.2.1 6 = .ok (.if_icmp .ge 24, 3) := by decide +kernel
theorem dX10_laysCounts_9 : decode k_X10_laysCounts.2.1 9 = .ok (.aload_n 0, 1) := by decide +kernel
theorem dX10_laysCounts_10 : decode k_X10_laysCounts.2.1 10 = .ok (.getfield 76, 3) := by decide +kernel
theorem dX10_laysCounts_13 : decode k_X10_laysCounts.2.1 13 = .ok (.iload_n 1, 1) := by decide +kernel
theorem dX10_laysCounts_14 : decode k_X10_laysCounts.2.1 14 = .ok (.iconst 0, 1) := by decide +kernel
theorem dX10_laysCounts_15 : decode k_X10_laysCounts.2.1 15 = .ok (.iastore, 1) := by decide +kernel
theorem dX10_laysCounts_16 : decode k_X10_laysCounts.2.1 16 = .ok (.aload_n 0, 1) := by decide +kernel
theorem dX10_laysCounts_17 : decode k_X10_laysCounts.2.1 17 = .ok (.getfield 79, 3) := by decide +kernel
theorem dX10_laysCounts_20 : decode k_X10_laysCounts.2.1 20 = .ok (.iload_n 1, 1) := by decide +kernel
theorem dX10_laysCounts_21 : decode k_X10_laysCounts.2.1 21 = .ok (.bipush (-2), 2) := by decide +kernel
theorem dX10_laysCounts_23 : decode k_X10_laysCounts.2.1 23 = .ok (.iastore, 1) := by decide +kernel
theorem dX10_laysCounts_24 : decode k_X10_laysCounts.2.1 24 = .ok (.iinc 1 1, 3) := by decide +kernel
theorem dX10_laysCounts_27 : decode k_X10_laysCounts.2.1 27 = .ok (.goto (-25), 3) := by decide +kernel
theorem dX10_laysCounts_30 : decode k_X10_laysCounts.2.1 30 = .ok (.iconst 0, 1) := by decide +kernel
theorem dX10_laysCounts_31 : decode k_X10_laysCounts.2.1 31 = .ok (.istore_n 1, 1) := by decide +kernel
theorem dX10_laysCounts_32 : decode k_X10_laysCounts.2.1 32 = .ok (.iconst 0, 1) := by decide +kernel
theorem dX10_laysCounts_33 : decode k_X10_laysCounts.2.1 33 = .ok (.istore_n 2, 1) := by decide +kernel
theorem dX10_laysCounts_34 : decode k_X10_laysCounts.2.1 34 = .ok (.iload_n 2, 1) := by decide +kernel
theorem dX10_laysCounts_35 : decode k_X10_laysCounts.2.1 35 = .ok (.iconst 1, 1) := by decide +kernel
theorem dX10_laysCounts_36 : decode k_X10_laysCounts.2.1 36 = .ok (.iadd, 1) := by decide +kernel
theorem dX10_laysCounts_37 : decode k_X10_laysCounts.2.1 37 = .ok (.aload_n 0, 1) := by decide +kernel
theorem dX10_laysCounts_38 : decode k_X10_laysCounts.2.1 38 = .ok (.invokevirtual 123, 3) := by decide +kernel
theorem dX10_laysCounts_41 : decode k_X10_laysCounts.2.1 41 = .ok (.if_icmp .ge 75, 3) := by decide +kernel
theorem dX10_laysCounts_44 : decode k_X10_laysCounts.2.1 44 = .ok (.bipush 86, 2) := by decide +kernel
theorem dX10_laysCounts_46 : decode k_X10_laysCounts.2.1 46 = .ok (.aload_n 0, 1) := by decide +kernel
theorem dX10_laysCounts_47 : decode k_X10_laysCounts.2.1 47 = .ok (.iload_n 2, 1) := by decide +kernel
theorem dX10_laysCounts_48 : decode k_X10_laysCounts.2.1 48 = .ok (.invokevirtual 127, 3) := by decide +kernel
theorem dX10_laysCounts_51 : decode k_X10_laysCounts.2.1 51 = .ok (.imul, 1) := by decide +kernel
theorem dX10_laysCounts_52 : decode k_X10_laysCounts.2.1 52 = .ok (.aload_n 0, 1) := by decide +kernel
theorem dX10_laysCounts_53 : decode k_X10_laysCounts.2.1 53 = .ok (.iload_n 2, 1) := by decide +kernel
theorem dX10_laysCounts_54 : decode k_X10_laysCounts.2.1 54 = .ok (.iconst 1, 1) := by decide +kernel
theorem dX10_laysCounts_55 : decode k_X10_laysCounts.2.1 55 = .ok (.iadd, 1) := by decide +kernel
theorem dX10_laysCounts_56 : decode k_X10_laysCounts.2.1 56 = .ok (.invokevirtual 127, 3) := by decide +kernel
theorem dX10_laysCounts_59 : decode k_X10_laysCounts.2.1 59 = .ok (.iadd, 1) := by decide +kernel
theorem dX10_laysCounts_60 : decode k_X10_laysCounts.2.1 60 = .ok (.istore_n 3, 1) := by decide +kernel
theorem dX10_laysCounts_61 : decode k_X10_laysCounts.2.1 61 = .ok (.aload_n 0, 1) := by decide +kernel
theorem dX10_laysCounts_62 : decode k_X10_laysCounts.2.1 62 = .ok (.getfield 79, 3) := by decide +kernel
theorem dX10_laysCounts_65 : decode k_X10_laysCounts.2.1 65 = .ok (.iload_n 3, 1) := by decide +kernel
theorem dX10_laysCounts_66 : decode k_X10_laysCounts.2.1 66 = .ok (.iaload, 1) := by decide +kernel
theorem dX10_laysCounts_67 : decode k_X10_laysCounts.2.1 67 = .ok (.iload_n 2, 1) := by decide +kernel
theorem dX10_laysCounts_68 : decode k_X10_laysCounts.2.1 68 = .ok (.iconst 1, 1) := by decide +kernel
theorem dX10_laysCounts_69 : decode k_X10_laysCounts.2.1 69 = .ok (.isub, 1) := by decide +kernel
theorem dX10_laysCounts_70 : decode k_X10_laysCounts.2.1 70 = .ok (.if_icmp .ne 6, 3) := by decide +kernel
theorem dX10_laysCounts_73 : decode k_X10_laysCounts.2.1 73 = .ok (.goto 37, 3) := by decide +kernel
theorem dX10_laysCounts_76 : decode k_X10_laysCounts.2.1 76 = .ok (.aload_n 0, 1) := by decide +kernel
theorem dX10_laysCounts_77 : decode k_X10_laysCounts.2.1 77 = .ok (.getfield 79, 3) := by decide +kernel
theorem dX10_laysCounts_80 : decode k_X10_laysCounts.2.1 80 = .ok (.iload_n 3, 1) := by decide +kernel
theorem dX10_laysCounts_81 : decode k_X10_laysCounts.2.1 81 = .ok (.iload_n 2, 1) := by decide +kernel
theorem dX10_laysCounts_82 : decode k_X10_laysCounts.2.1 82 = .ok (.iastore, 1) := by decide +kernel
theorem dX10_laysCounts_83 : decode k_X10_laysCounts.2.1 83 = .ok (.iload_n 1, 1) := by decide +kernel
theorem dX10_laysCounts_84 : decode k_X10_laysCounts.2.1 84 = .ok (.aload_n 0, 1) := by decide +kernel
theorem dX10_laysCounts_85 : decode k_X10_laysCounts.2.1 85 = .ok (.getfield 76, 3) := by decide +kernel
theorem dX10_laysCounts_88 : decode k_X10_laysCounts.2.1 88 = .ok (.iload_n 3, 1) := by decide +kernel
theorem dX10_laysCounts_89 : decode k_X10_laysCounts.2.1 89 = .ok (.iaload, 1) := by decide +kernel
theorem dX10_laysCounts_90 : decode k_X10_laysCounts.2.1 90 = .ok (.ifCond .ne 7, 3) := by decide +kernel
theorem dX10_laysCounts_93 : decode k_X10_laysCounts.2.1 93 = .ok (.iconst 1, 1) := by decide +kernel
theorem dX10_laysCounts_94 : decode k_X10_laysCounts.2.1 94 = .ok (.goto 4, 3) := by decide +kernel
theorem dX10_laysCounts_97 : decode k_X10_laysCounts.2.1 97 = .ok (.iconst 0, 1) := by decide +kernel
theorem dX10_laysCounts_98 : decode k_X10_laysCounts.2.1 98 = .ok (.iadd, 1) := by decide +kernel
theorem dX10_laysCounts_99 : decode k_X10_laysCounts.2.1 99 = .ok (.istore_n 1, 1) := by decide +kernel
theorem dX10_laysCounts_100 : decode k_X10_laysCounts.2.1 100 = .ok (.aload_n 0, 1) := by decide +kernel
theorem dX10_laysCounts_101 : decode k_X10_laysCounts.2.1 101 = .ok (.getfield 76, 3) := by decide +kernel
theorem dX10_laysCounts_104 : decode k_X10_laysCounts.2.1 104 = .ok (.iload_n 3, 1) := by decide +kernel
theorem dX10_laysCounts_105 : decode k_X10_laysCounts.2.1 105 = .ok (.dup2, 1) := by decide +kernel
theorem dX10_laysCounts_106 : decode k_X10_laysCounts.2.1 106 = .ok (.iaload, 1) := by decide +kernel
theorem dX10_laysCounts_107 : decode k_X10_laysCounts.2.1 107 = .ok (.iconst 1, 1) := by decide +kernel
theorem dX10_laysCounts_108 : decode k_X10_laysCounts.2.1 108 = .ok (.iadd, 1) := by decide +kernel
theorem dX10_laysCounts_109 : decode k_X10_laysCounts.2.1 109 = .ok (.iastore, 1) := by decide +kernel
theorem dX10_laysCounts_110 : decode k_X10_laysCounts.2.1 110 = .ok (.iinc 2 1, 3) := by decide +kernel
theorem dX10_laysCounts_113 : decode k_X10_laysCounts.2.1 113 = .ok (.goto (-79), 3) := by decide +kernel
theorem dX10_laysCounts_116 : decode k_X10_laysCounts.2.1 116 = .ok (.iload_n 1, 1) := by decide +kernel
theorem dX10_laysCounts_117 : decode k_X10_laysCounts.2.1 117 = .ok (.ireturn, 1) := by decide +kernel
theorem dX10_picked_0 : decode k_X10_picked.2.1 0 = .ok (.aload_n 0, 1) := by decide +kernel
theorem dX10_picked_1 : decode k_X10_picked.2.1 1 = .ok (.invokevirtual 236, 3) := by decide +kernel
theorem dX10_picked_4 : decode k_X10_picked.2.1 4 = .ok (.istore_n 1, 1) := by decide +kernel
theorem dX10_picked_5 : decode k_X10_picked.2.1 5 = .ok (.iconst (-1), 1) := by decide +kernel
theorem dX10_picked_6 : decode k_X10_picked.2.1 6 = .ok (.istore_n 2, 1) := by decide +kernel
theorem dX10_picked_7 : decode k_X10_picked.2.1 7 = .ok (.iconst 0, 1) := by decide +kernel
theorem dX10_picked_8 : decode k_X10_picked.2.1 8 = .ok (.istore_n 3, 1) := by decide +kernel
theorem dX10_picked_9 : decode k_X10_picked.2.1 9 = .ok (.iload_n 3, 1) := by decide +kernel
theorem dX10_picked_10 : decode k_X10_picked.2.1 10 = .ok (.sipush 7396, 3) := by decide +kernel
theorem dX10_picked_13 : decode k_X10_picked.2.1 13 = .ok (.if_icmp .ge 41, 3) := by decide +kernel
theorem dX10_picked_16 : decode k_X10_picked.2.1 16 = .ok (.aload_n 0, 1) := by decide +kernel
theorem dX10_picked_17 : decode k_X10_picked.2.1 17 = .ok (.getfield 76, 3) := by decide +kernel
theorem dX10_picked_20 : decode k_X10_picked.2.1 20 = .ok (.iload_n 3, 1) := by decide +kernel
theorem dX10_picked_21 : decode k_X10_picked.2.1 21 = .ok (.iaload, 1) := by decide +kernel
theorem dX10_picked_22 : decode k_X10_picked.2.1 22 = .ok (.iconst 1, 1) := by decide +kernel
theorem dX10_picked_23 : decode k_X10_picked.2.1 23 = .ok (.if_icmp .le 25, 3) := by decide +kernel
theorem dX10_picked_26 : decode k_X10_picked.2.1 26 = .ok (.iload_n 2, 1) := by decide +kernel
theorem dX10_picked_27 : decode k_X10_picked.2.1 27 = .ok (.iconst (-1), 1) := by decide +kernel
theorem dX10_picked_28 : decode k_X10_picked.2.1 28 = .ok (.if_icmp .eq 18, 3) := by decide +kernel
theorem dX10_picked_31 : decode k_X10_picked.2.1 31 = .ok (.aload_n 0, 1) := by decide +kernel
theorem dX10_picked_32 : decode k_X10_picked.2.1 32 = .ok (.getfield 76, 3) := by decide +kernel
theorem dX10_picked_35 : decode k_X10_picked.2.1 35 = .ok (.iload_n 3, 1) := by decide +kernel
theorem dX10_picked_36 : decode k_X10_picked.2.1 36 = .ok (.iaload, 1) := by decide +kernel
theorem dX10_picked_37 : decode k_X10_picked.2.1 37 = .ok (.aload_n 0, 1) := by decide +kernel
theorem dX10_picked_38 : decode k_X10_picked.2.1 38 = .ok (.getfield 76, 3) := by decide +kernel
theorem dX10_picked_41 : decode k_X10_picked.2.1 41 = .ok (.iload_n 2, 1) := by decide +kernel
theorem dX10_picked_42 : decode k_X10_picked.2.1 42 = .ok (.iaload, 1) := by decide +kernel
theorem dX10_picked_43 : decode k_X10_picked.2.1 43 = .ok (.if_icmp .le 5, 3) := by decide +kernel
theorem dX10_picked_46 : decode k_X10_picked.2.1 46 = .ok (.iload_n 3, 1) := by decide +kernel
theorem dX10_picked_47 : decode k_X10_picked.2.1 47 = .ok (.istore_n 2, 1) := by decide +kernel
theorem dX10_picked_48 : decode k_X10_picked.2.1 48 = .ok (.iinc 3 1, 3) := by decide +kernel
theorem dX10_picked_51 : decode k_X10_picked.2.1 51 = .ok (.goto (-42), 3) := by decide +kernel
theorem dX10_picked_54 : decode k_X10_picked.2.1 54 = .ok (.iload_n 2, 1) := by decide +kernel
theorem dX10_picked_55 : decode k_X10_picked.2.1 55 = .ok (.ireturn, 1) := by decide +kernel
theorem dX10_step_0 : decode k_X10_step.2.1 0 = .ok (.aload_n 0, 1) := by decide +kernel
theorem dX10_step_1 : decode k_X10_step.2.1 1 = .ok (.iconst 0, 1) := by decide +kernel
theorem dX10_step_2 : decode k_X10_step.2.1 2 = .ok (.putfield 1, 3) := by decide +kernel
theorem dX10_step_5 : decode k_X10_step.2.1 5 = .ok (.aload_n 0, 1) := by decide +kernel
theorem dX10_step_6 : decode k_X10_step.2.1 6 = .ok (.invokevirtual 239, 3) := by decide +kernel
theorem dX10_step_9 : decode k_X10_step.2.1 9 = .ok (.istore_n 1, 1) := by decide +kernel
theorem dX10_step_10 : decode k_X10_step.2.1 10 = .ok (.iload_n 1, 1) := by decide +kernel
theorem dX10_step_11 : decode k_X10_step.2.1 11 = .ok (.iconst (-1), 1) := by decide +kernel
theorem dX10_step_12 : decode k_X10_step.2.1 12 = .ok (.if_icmp .ne 5, 3) := by decide +kernel
theorem dX10_step_15 : decode k_X10_step.2.1 15 = .ok (.iconst (-1), 1) := by decide +kernel
theorem dX10_step_16 : decode k_X10_step.2.1 16 = .ok (.ireturn, 1) := by decide +kernel
theorem dX10_step_17 : decode k_X10_step.2.1 17 = .ok (.aload_n 0, 1) := by decide +kernel
theorem dX10_step_18 : decode k_X10_step.2.1 18 = .ok (.iload_n 1, 1) := by decide +kernel
theorem dX10_step_19 : decode k_X10_step.2.1 19 = .ok (.bipush 86, 2) := by decide +kernel
theorem dX10_step_21 : decode k_X10_step.2.1 21 = .ok (.idiv, 1) := by decide +kernel
theorem dX10_step_22 : decode k_X10_step.2.1 22 = .ok (.iload_n 1, 1) := by decide +kernel
theorem dX10_step_23 : decode k_X10_step.2.1 23 = .ok (.bipush 86, 2) := by decide +kernel
theorem dX10_step_25 : decode k_X10_step.2.1 25 = .ok (.irem, 1) := by decide +kernel
theorem dX10_step_26 : decode k_X10_step.2.1 26 = .ok (.invokevirtual 242, 3) := by decide +kernel
theorem dX10_step_29 : decode k_X10_step.2.1 29 = .ok (.ifCond .ne 6, 3) := by decide +kernel
theorem dX10_step_32 : decode k_X10_step.2.1 32 = .ok (.bipush (-4), 2) := by decide +kernel
theorem dX10_step_34 : decode k_X10_step.2.1 34 = .ok (.ireturn, 1) := by decide +kernel
theorem dX10_step_35 : decode k_X10_step.2.1 35 = .ok (.aload_n 0, 1) := by decide +kernel
theorem dX10_step_36 : decode k_X10_step.2.1 36 = .ok (.invokevirtual 171, 3) := by decide +kernel
theorem dX10_step_39 : decode k_X10_step.2.1 39 = .ok (.aload_n 0, 1) := by decide +kernel
theorem dX10_step_40 : decode k_X10_step.2.1 40 = .ok (.iload_n 1, 1) := by decide +kernel
theorem dX10_step_41 : decode k_X10_step.2.1 41 = .ok (.bipush 86, 2) := by decide +kernel
theorem dX10_step_43 : decode k_X10_step.2.1 43 = .ok (.idiv, 1) := by decide +kernel
theorem dX10_step_44 : decode k_X10_step.2.1 44 = .ok (.iload_n 1, 1) := by decide +kernel
theorem dX10_step_45 : decode k_X10_step.2.1 45 = .ok (.bipush 86, 2) := by decide +kernel
theorem dX10_step_47 : decode k_X10_step.2.1 47 = .ok (.irem, 1) := by decide +kernel
theorem dX10_step_48 : decode k_X10_step.2.1 48 = .ok (.invokevirtual 246, 3) := by decide +kernel
theorem dX10_step_51 : decode k_X10_step.2.1 51 = .ok (.ireturn, 1) := by decide +kernel
theorem dX10_pack_0 : decode k_X10_pack.2.1 0 = .ok (.aload_n 0, 1) := by decide +kernel
theorem dX10_pack_1 : decode k_X10_pack.2.1 1 = .ok (.iconst 0, 1) := by decide +kernel
theorem dX10_pack_2 : decode k_X10_pack.2.1 2 = .ok (.putfield 1, 3) := by decide +kernel
theorem dX10_pack_5 : decode k_X10_pack.2.1 5 = .ok (.aload_n 0, 1) := by decide +kernel
theorem dX10_pack_6 : decode k_X10_pack.2.1 6 = .ok (.invokevirtual 171, 3) := by decide +kernel
theorem dX10_pack_9 : decode k_X10_pack.2.1 9 = .ok (.iconst 0, 1) := by decide +kernel
theorem dX10_pack_10 : decode k_X10_pack.2.1 10 = .ok (.istore_n 1, 1) := by decide +kernel
theorem dX10_pack_11 : decode k_X10_pack.2.1 11 = .ok (.aload_n 0, 1) := by decide +kernel
theorem dX10_pack_12 : decode k_X10_pack.2.1 12 = .ok (.invokevirtual 239, 3) := by decide +kernel
theorem dX10_pack_15 : decode k_X10_pack.2.1 15 = .ok (.istore_n 2, 1) := by decide +kernel
theorem dX10_pack_16 : decode k_X10_pack.2.1 16 = .ok (.iload_n 2, 1) := by decide +kernel
theorem dX10_pack_17 : decode k_X10_pack.2.1 17 = .ok (.iconst (-1), 1) := by decide +kernel
theorem dX10_pack_18 : decode k_X10_pack.2.1 18 = .ok (.if_icmp .eq 42, 3) := by decide +kernel
theorem dX10_pack_21 : decode k_X10_pack.2.1 21 = .ok (.aload_n 0, 1) := by decide +kernel
theorem dX10_pack_22 : decode k_X10_pack.2.1 22 = .ok (.iload_n 2, 1) := by decide +kernel
theorem dX10_pack_23 : decode k_X10_pack.2.1 23 = .ok (.bipush 86, 2) := by decide +kernel
theorem dX10_pack_25 : decode k_X10_pack.2.1 25 = .ok (.idiv, 1) := by decide +kernel
theorem dX10_pack_26 : decode k_X10_pack.2.1 26 = .ok (.iload_n 2, 1) := by decide +kernel
theorem dX10_pack_27 : decode k_X10_pack.2.1 27 = .ok (.bipush 86, 2) := by decide +kernel
theorem dX10_pack_29 : decode k_X10_pack.2.1 29 = .ok (.irem, 1) := by decide +kernel
theorem dX10_pack_30 : decode k_X10_pack.2.1 30 = .ok (.invokevirtual 242, 3) := by decide +kernel
theorem dX10_pack_33 : decode k_X10_pack.2.1 33 = .ok (.ifCond .eq 27, 3) := by decide +kernel
theorem dX10_pack_36 : decode k_X10_pack.2.1 36 = .ok (.aload_n 0, 1) := by decide +kernel
theorem dX10_pack_37 : decode k_X10_pack.2.1 37 = .ok (.iload_n 2, 1) := by decide +kernel
theorem dX10_pack_38 : decode k_X10_pack.2.1 38 = .ok (.bipush 86, 2) := by decide +kernel
theorem dX10_pack_40 : decode k_X10_pack.2.1 40 = .ok (.idiv, 1) := by decide +kernel
theorem dX10_pack_41 : decode k_X10_pack.2.1 41 = .ok (.iload_n 2, 1) := by decide +kernel
theorem dX10_pack_42 : decode k_X10_pack.2.1 42 = .ok (.bipush 86, 2) := by decide +kernel
theorem dX10_pack_44 : decode k_X10_pack.2.1 44 = .ok (.irem, 1) := by decide +kernel
theorem dX10_pack_45 : decode k_X10_pack.2.1 45 = .ok (.invokevirtual 246, 3) := by decide +kernel
theorem dX10_pack_48 : decode k_X10_pack.2.1 48 = .ok (.istore_n 3, 1) := by decide +kernel
theorem dX10_pack_49 : decode k_X10_pack.2.1 49 = .ok (.iinc 1 1, 3) := by decide +kernel
theorem dX10_pack_52 : decode k_X10_pack.2.1 52 = .ok (.aload_n 0, 1) := by decide +kernel
theorem dX10_pack_53 : decode k_X10_pack.2.1 53 = .ok (.invokevirtual 239, 3) := by decide +kernel
theorem dX10_pack_56 : decode k_X10_pack.2.1 56 = .ok (.istore_n 2, 1) := by decide +kernel
theorem dX10_pack_57 : decode k_X10_pack.2.1 57 = .ok (.goto (-41), 3) := by decide +kernel
theorem dX10_pack_60 : decode k_X10_pack.2.1 60 = .ok (.iload_n 1, 1) := by decide +kernel
theorem dX10_pack_61 : decode k_X10_pack.2.1 61 = .ok (.ireturn, 1) := by decide +kernel
theorem dX10_replace_0 : decode k_X10_replace.2.1 0 = .ok (.aload_n 0, 1) := by decide +kernel
theorem dX10_replace_1 : decode k_X10_replace.2.1 1 = .ok (.iconst 0, 1) := by decide +kernel
theorem dX10_replace_2 : decode k_X10_replace.2.1 2 = .ok (.putfield 1, 3) := by decide +kernel
theorem dX10_replace_5 : decode k_X10_replace.2.1 5 = .ok (.aload_n 0, 1) := by decide +kernel
theorem dX10_replace_6 : decode k_X10_replace.2.1 6 = .ok (.iload_n 1, 1) := by decide +kernel
theorem dX10_replace_7 : decode k_X10_replace.2.1 7 = .ok (.invokevirtual 210, 3) := by decide +kernel
theorem dX10_replace_10 : decode k_X10_replace.2.1 10 = .ok (.ifCond .eq 11, 3) := by decide +kernel
theorem dX10_replace_13 : decode k_X10_replace.2.1 13 = .ok (.aload_n 0, 1) := by decide +kernel
theorem dX10_replace_14 : decode k_X10_replace.2.1 14 = .ok (.iload_n 2, 1) := by decide +kernel
theorem dX10_replace_15 : decode k_X10_replace.2.1 15 = .ok (.invokevirtual 210, 3) := by decide +kernel
theorem dX10_replace_18 : decode k_X10_replace.2.1 18 = .ok (.ifCond .ne 6, 3) := by decide +kernel
theorem dX10_replace_21 : decode k_X10_replace.2.1 21 = .ok (.bipush (-2), 2) := by decide +kernel
theorem dX10_replace_23 : decode k_X10_replace.2.1 23 = .ok (.ireturn, 1) := by decide +kernel
theorem dX10_replace_24 : decode k_X10_replace.2.1 24 = .ok (.aload_n 0, 1) := by decide +kernel
theorem dX10_replace_25 : decode k_X10_replace.2.1 25 = .ok (.iload_n 1, 1) := by decide +kernel
theorem dX10_replace_26 : decode k_X10_replace.2.1 26 = .ok (.iload_n 2, 1) := by decide +kernel
theorem dX10_replace_27 : decode k_X10_replace.2.1 27 = .ok (.invokevirtual 249, 3) := by decide +kernel
theorem dX10_replace_30 : decode k_X10_replace.2.1 30 = .ok (.ifCond .ne 6, 3) := by decide +kernel
theorem dX10_replace_33 : decode k_X10_replace.2.1 33 = .ok (.bipush (-5), 2) := by decide +kernel
theorem dX10_replace_35 : decode k_X10_replace.2.1 35 = .ok (.ireturn, 1) := by decide +kernel
theorem dX10_replace_36 : decode k_X10_replace.2.1 36 = .ok (.aload_n 0, 1) := by decide +kernel
theorem dX10_replace_37 : decode k_X10_replace.2.1 37 = .ok (.iload_n 1, 1) := by decide +kernel
theorem dX10_replace_38 : decode k_X10_replace.2.1 38 = .ok (.iload_n 2, 1) := by decide +kernel
theorem dX10_replace_39 : decode k_X10_replace.2.1 39 = .ok (.invokevirtual 242, 3) := by decide +kernel
theorem dX10_replace_42 : decode k_X10_replace.2.1 42 = .ok (.ifCond .ne 6, 3) := by decide +kernel
theorem dX10_replace_45 : decode k_X10_replace.2.1 45 = .ok (.bipush (-4), 2) := by decide +kernel
theorem dX10_replace_47 : decode k_X10_replace.2.1 47 = .ok (.ireturn, 1) := by decide +kernel
theorem dX10_replace_48 : decode k_X10_replace.2.1 48 = .ok (.aload_n 0, 1) := by decide +kernel
theorem dX10_replace_49 : decode k_X10_replace.2.1 49 = .ok (.invokevirtual 171, 3) := by decide +kernel
theorem dX10_replace_52 : decode k_X10_replace.2.1 52 = .ok (.aload_n 0, 1) := by decide +kernel
theorem dX10_replace_53 : decode k_X10_replace.2.1 53 = .ok (.iload_n 1, 1) := by decide +kernel
theorem dX10_replace_54 : decode k_X10_replace.2.1 54 = .ok (.iload_n 2, 1) := by decide +kernel
theorem dX10_replace_55 : decode k_X10_replace.2.1 55 = .ok (.invokevirtual 246, 3) := by decide +kernel
theorem dX10_replace_58 : decode k_X10_replace.2.1 58 = .ok (.ireturn, 1) := by decide +kernel
theorem dX10_inSequence_0 : decode k_X10_inSequence.2.1 0 = .ok (.iconst 0, 1) := by decide +kernel
theorem dX10_inSequence_1 : decode k_X10_inSequence.2.1 1 = .ok (.istore_n 2, 1) := by decide +kernel
theorem dX10_inSequence_2 : decode k_X10_inSequence.2.1 2 = .ok (.iconst 0, 1) := by decide +kernel
theorem dX10_inSequence_3 : decode k_X10_inSequence.2.1 3 = .ok (.istore_n 3, 1) := by decide +kernel
theorem dX10_inSequence_4 : decode k_X10_inSequence.2.1 4 = .ok (.iload_n 3, 1) := by decide +kernel
theorem dX10_inSequence_5 : decode k_X10_inSequence.2.1 5 = .ok (.aload_n 0, 1) := by decide +kernel
theorem dX10_inSequence_6 : decode k_X10_inSequence.2.1 6 = .ok (.invokevirtual 123, 3) := by decide +kernel
theorem dX10_inSequence_9 : decode k_X10_inSequence.2.1 9 = .ok (.if_icmp .ge 26, 3) := by decide +kernel
theorem dX10_inSequence_12 : decode k_X10_inSequence.2.1 12 = .ok (.iload_n 2, 1) := by decide +kernel
theorem dX10_inSequence_13 : decode k_X10_inSequence.2.1 13 = .ok (.aload_n 0, 1) := by decide +kernel
theorem dX10_inSequence_14 : decode k_X10_inSequence.2.1 14 = .ok (.iload_n 3, 1) := by decide +kernel
theorem dX10_inSequence_15 : decode k_X10_inSequence.2.1 15 = .ok (.invokevirtual 127, 3) := by decide +kernel
theorem dX10_inSequence_18 : decode k_X10_inSequence.2.1 18 = .ok (.iload_n 1, 1) := by decide +kernel
theorem dX10_inSequence_19 : decode k_X10_inSequence.2.1 19 = .ok (.if_icmp .ne 7, 3) := by decide +kernel
theorem dX10_inSequence_22 : decode k_X10_inSequence.2.1 22 = .ok (.iconst 1, 1) := by decide +kernel
theorem dX10_inSequence_23 : decode k_X10_inSequence.2.1 23 = .ok (.goto 4, 3) := by decide +kernel
theorem dX10_inSequence_26 : decode k_X10_inSequence.2.1 26 = .ok (.iconst 0, 1) := by decide +kernel
theorem dX10_inSequence_27 : decode k_X10_inSequence.2.1 27 = .ok (.iadd, 1) := by decide +kernel
theorem dX10_inSequence_28 : decode k_X10_inSequence.2.1 28 = .ok (.istore_n 2, 1) := by decide +kernel
theorem dX10_inSequence_29 : decode k_X10_inSequence.2.1 29 = .ok (.iinc 3 1, 3) := by decide +kernel
theorem dX10_inSequence_32 : decode k_X10_inSequence.2.1 32 = .ok (.goto (-28), 3) := by decide +kernel
theorem dX10_inSequence_35 : decode k_X10_inSequence.2.1 35 = .ok (.iload_n 2, 1) := by decide +kernel
theorem dX10_inSequence_36 : decode k_X10_inSequence.2.1 36 = .ok (.ireturn, 1) := by decide +kernel
theorem dX10_timesIn_0 : decode k_X10_timesIn.2.1 0 = .ok (.iconst 0, 1) := by decide +kernel
theorem dX10_timesIn_1 : decode k_X10_timesIn.2.1 1 = .ok (.istore_n 3, 1) := by decide +kernel
theorem dX10_timesIn_2 : decode k_X10_timesIn.2.1 2 = .ok (.iconst 0, 1) := by decide +kernel
theorem dX10_timesIn_3 : decode k_X10_timesIn.2.1 3 = .ok (.istore 4, 2) := by decide +kernel
theorem dX10_timesIn_5 : decode k_X10_timesIn.2.1 5 = .ok (.iload 4, 2) := by decide +kernel
theorem dX10_timesIn_7 : decode k_X10_timesIn.2.1 7 = .ok (.aload_n 0, 1) := by decide +kernel
theorem dX10_timesIn_8 : decode k_X10_timesIn.2.1 8 = .ok (.iload_n 1, 1) := by decide +kernel
theorem dX10_timesIn_9 : decode k_X10_timesIn.2.1 9 = .ok (.invokevirtual 106, 3) := by decide +kernel
theorem dX10_timesIn_12 : decode k_X10_timesIn.2.1 12 = .ok (.if_icmp .ge 28, 3) := by decide +kernel
theorem dX10_timesIn_15 : decode k_X10_timesIn.2.1 15 = .ok (.iload_n 3, 1) := by decide +kernel
theorem dX10_timesIn_16 : decode k_X10_timesIn.2.1 16 = .ok (.aload_n 0, 1) := by decide +kernel
theorem dX10_timesIn_17 : decode k_X10_timesIn.2.1 17 = .ok (.iload_n 1, 1) := by decide +kernel
theorem dX10_timesIn_18 : decode k_X10_timesIn.2.1 18 = .ok (.iload 4, 2) := by decide +kernel
theorem dX10_timesIn_20 : decode k_X10_timesIn.2.1 20 = .ok (.invokevirtual 113, 3) := by decide +kernel
theorem dX10_timesIn_23 : decode k_X10_timesIn.2.1 23 = .ok (.iload_n 2, 1) := by decide +kernel
theorem dX10_timesIn_24 : decode k_X10_timesIn.2.1 24 = .ok (.if_icmp .ne 7, 3) := by decide +kernel
theorem dX10_timesIn_27 : decode k_X10_timesIn.2.1 27 = .ok (.iconst 1, 1) := by decide +kernel
theorem dX10_timesIn_28 : decode k_X10_timesIn.2.1 28 = .ok (.goto 4, 3) := by decide +kernel
theorem dX10_timesIn_31 : decode k_X10_timesIn.2.1 31 = .ok (.iconst 0, 1) := by decide +kernel
theorem dX10_timesIn_32 : decode k_X10_timesIn.2.1 32 = .ok (.iadd, 1) := by decide +kernel
theorem dX10_timesIn_33 : decode k_X10_timesIn.2.1 33 = .ok (.istore_n 3, 1) := by decide +kernel
theorem dX10_timesIn_34 : decode k_X10_timesIn.2.1 34 = .ok (.iinc 4 1, 3) := by decide +kernel
theorem dX10_timesIn_37 : decode k_X10_timesIn.2.1 37 = .ok (.goto (-32), 3) := by decide +kernel
theorem dX10_timesIn_40 : decode k_X10_timesIn.2.1 40 = .ok (.iload_n 3, 1) := by decide +kernel
theorem dX10_timesIn_41 : decode k_X10_timesIn.2.1 41 = .ok (.ireturn, 1) := by decide +kernel
theorem dX10_usesOf_0 : decode k_X10_usesOf.2.1 0 = .ok (.aload_n 0, 1) := by decide +kernel
theorem dX10_usesOf_1 : decode k_X10_usesOf.2.1 1 = .ok (.iload_n 1, 1) := by decide +kernel
theorem dX10_usesOf_2 : decode k_X10_usesOf.2.1 2 = .ok (.invokevirtual 192, 3) := by decide +kernel
theorem dX10_usesOf_5 : decode k_X10_usesOf.2.1 5 = .ok (.istore_n 2, 1) := by decide +kernel
theorem dX10_usesOf_6 : decode k_X10_usesOf.2.1 6 = .ok (.bipush 26, 2) := by decide +kernel
theorem dX10_usesOf_8 : decode k_X10_usesOf.2.1 8 = .ok (.istore_n 3, 1) := by decide +kernel
theorem dX10_usesOf_9 : decode k_X10_usesOf.2.1 9 = .ok (.iload_n 3, 1) := by decide +kernel
theorem dX10_usesOf_10 : decode k_X10_usesOf.2.1 10 = .ok (.bipush 86, 2) := by decide +kernel
theorem dX10_usesOf_12 : decode k_X10_usesOf.2.1 12 = .ok (.if_icmp .ge 18, 3) := by decide +kernel
theorem dX10_usesOf_15 : decode k_X10_usesOf.2.1 15 = .ok (.iload_n 2, 1) := by decide +kernel
theorem dX10_usesOf_16 : decode k_X10_usesOf.2.1 16 = .ok (.aload_n 0, 1) := by decide +kernel
theorem dX10_usesOf_17 : decode k_X10_usesOf.2.1 17 = .ok (.iload_n 3, 1) := by decide +kernel
theorem dX10_usesOf_18 : decode k_X10_usesOf.2.1 18 = .ok (.iload_n 1, 1) := by decide +kernel
theorem dX10_usesOf_19 : decode k_X10_usesOf.2.1 19 = .ok (.invokevirtual 252, 3) := by decide +kernel
theorem dX10_usesOf_22 : decode k_X10_usesOf.2.1 22 = .ok (.iadd, 1) := by decide +kernel
theorem dX10_usesOf_23 : decode k_X10_usesOf.2.1 23 = .ok (.istore_n 2, 1) := by decide +kernel
theorem dX10_usesOf_24 : decode k_X10_usesOf.2.1 24 = .ok (.iinc 3 1, 3) := by decide +kernel
theorem dX10_usesOf_27 : decode k_X10_usesOf.2.1 27 = .ok (.goto (-18), 3) := by decide +kernel
theorem dX10_usesOf_30 : decode k_X10_usesOf.2.1 30 = .ok (.iload_n 2, 1) := by decide +kernel
theorem dX10_usesOf_31 : decode k_X10_usesOf.2.1 31 = .ok (.ireturn, 1) := by decide +kernel
theorem dX10_canGo_0 : decode k_X10_canGo.2.1 0 = .ok (.bipush 26, 2) := by decide +kernel
theorem dX10_canGo_2 : decode k_X10_canGo.2.1 2 = .ok (.istore_n 2, 1) := by decide +kernel
theorem dX10_canGo_3 : decode k_X10_canGo.2.1 3 = .ok (.iload_n 2, 1) := by decide +kernel
theorem dX10_canGo_4 : decode k_X10_canGo.2.1 4 = .ok (.bipush 86, 2) := by decide +kernel
theorem dX10_canGo_6 : decode k_X10_canGo.2.1 6 = .ok (.if_icmp .ge 45, 3) := by decide +kernel
theorem dX10_canGo_9 : decode k_X10_canGo.2.1 9 = .ok (.aload_n 0, 1) := by decide +kernel
theorem dX10_canGo_10 : decode k_X10_canGo.2.1 10 = .ok (.iload_n 2, 1) := by decide +kernel
theorem dX10_canGo_11 : decode k_X10_canGo.2.1 11 = .ok (.iload_n 1, 1) := by decide +kernel
theorem dX10_canGo_12 : decode k_X10_canGo.2.1 12 = .ok (.invokevirtual 252, 3) := by decide +kernel
theorem dX10_canGo_15 : decode k_X10_canGo.2.1 15 = .ok (.ifCond .le 30, 3) := by decide +kernel
theorem dX10_canGo_18 : decode k_X10_canGo.2.1 18 = .ok (.aload_n 0, 1) := by decide +kernel
theorem dX10_canGo_19 : decode k_X10_canGo.2.1 19 = .ok (.iload_n 2, 1) := by decide +kernel
theorem dX10_canGo_20 : decode k_X10_canGo.2.1 20 = .ok (.invokevirtual 106, 3) := by decide +kernel
theorem dX10_canGo_23 : decode k_X10_canGo.2.1 23 = .ok (.aload_n 0, 1) := by decide +kernel
theorem dX10_canGo_24 : decode k_X10_canGo.2.1 24 = .ok (.iload_n 2, 1) := by decide +kernel
theorem dX10_canGo_25 : decode k_X10_canGo.2.1 25 = .ok (.iload_n 1, 1) := by decide +kernel
theorem dX10_canGo_26 : decode k_X10_canGo.2.1 26 = .ok (.invokevirtual 252, 3) := by decide +kernel
theorem dX10_canGo_29 : decode k_X10_canGo.2.1 29 = .ok (.aload_n 0, 1) := by decide +kernel
theorem dX10_canGo_30 : decode k_X10_canGo.2.1 30 = .ok (.iload_n 1, 1) := by decide +kernel
theorem dX10_canGo_31 : decode k_X10_canGo.2.1 31 = .ok (.invokevirtual 106, 3) := by decide +kernel
theorem dX10_canGo_34 : decode k_X10_canGo.2.1 34 = .ok (.iconst 1, 1) := by decide +kernel
theorem dX10_canGo_35 : decode k_X10_canGo.2.1 35 = .ok (.isub, 1) := by decide +kernel
theorem dX10_canGo_36 : decode k_X10_canGo.2.1 36 = .ok (.imul, 1) := by decide +kernel
theorem dX10_canGo_37 : decode k_X10_canGo.2.1 37 = .ok (.iadd, 1) := by decide +kernel
theorem dX10_canGo_38 : decode k_X10_canGo.2.1 38 = .ok (.bipush 12, 2) := by decide +kernel
theorem dX10_canGo_40 : decode k_X10_canGo.2.1 40 = .ok (.if_icmp .le 5, 3) := by decide +kernel
theorem dX10_canGo_43 : decode k_X10_canGo.2.1 43 = .ok (.iconst 0, 1) := by decide +kernel
theorem dX10_canGo_44 : decode k_X10_canGo.2.1 44 = .ok (.ireturn, 1) := by decide +kernel
theorem dX10_canGo_45 : decode k_X10_canGo.2.1 45 = .ok (.iinc 2 1, 3) := by decide +kernel
theorem dX10_canGo_48 : decode k_X10_canGo.2.1 48 = .ok (.goto (-45), 3) := by decide +kernel
theorem dX10_canGo_51 : decode k_X10_canGo.2.1 51 = .ok (.iconst 1, 1) := by decide +kernel
theorem dX10_canGo_52 : decode k_X10_canGo.2.1 52 = .ok (.ireturn, 1) := by decide +kernel
theorem dX10_puts_0 : decode k_X10_puts.2.1 0 = .ok (.iconst 0, 1) := by decide +kernel
theorem dX10_puts_1 : decode k_X10_puts.2.1 1 = .ok (.istore 4, 2) := by decide +kernel
theorem dX10_puts_3 : decode k_X10_puts.2.1 3 = .ok (.iconst 0, 1) := by decide +kernel
theorem dX10_puts_4 : decode k_X10_puts.2.1 4 = .ok (.istore 5, 2) := by decide +kernel
theorem dX10_puts_6 : decode k_X10_puts.2.1 6 = .ok (.iload 5, 2) := by decide +kernel
theorem dX10_puts_8 : decode k_X10_puts.2.1 8 = .ok (.iload_n 2, 1) := by decide +kernel
theorem dX10_puts_9 : decode k_X10_puts.2.1 9 = .ok (.if_icmp .ge 80, 3) := by decide +kernel
theorem dX10_puts_12 : decode k_X10_puts.2.1 12 = .ok (.aload_n 0, 1) := by decide +kernel
theorem dX10_puts_13 : decode k_X10_puts.2.1 13 = .ok (.getfield 13, 3) := by decide +kernel
theorem dX10_puts_16 : decode k_X10_puts.2.1 16 = .ok (.iload_n 1, 1) := by decide +kernel
theorem dX10_puts_17 : decode k_X10_puts.2.1 17 = .ok (.iload 5, 2) := by decide +kernel
theorem dX10_puts_19 : decode k_X10_puts.2.1 19 = .ok (.iadd, 1) := by decide +kernel
theorem dX10_puts_20 : decode k_X10_puts.2.1 20 = .ok (.iaload, 1) := by decide +kernel
theorem dX10_puts_21 : decode k_X10_puts.2.1 21 = .ok (.iload_n 3, 1) := by decide +kernel
theorem dX10_puts_22 : decode k_X10_puts.2.1 22 = .ok (.if_icmp .eq 25, 3) := by decide +kernel
theorem dX10_puts_25 : decode k_X10_puts.2.1 25 = .ok (.aload_n 0, 1) := by decide +kernel
theorem dX10_puts_26 : decode k_X10_puts.2.1 26 = .ok (.getfield 82, 3) := by decide +kernel
theorem dX10_puts_29 : decode k_X10_puts.2.1 29 = .ok (.iload 4, 2) := by decide +kernel
theorem dX10_puts_31 : decode k_X10_puts.2.1 31 = .ok (.aload_n 0, 1) := by decide +kernel
theorem dX10_puts_32 : decode k_X10_puts.2.1 32 = .ok (.getfield 13, 3) := by decide +kernel
theorem dX10_puts_35 : decode k_X10_puts.2.1 35 = .ok (.iload_n 1, 1) := by decide +kernel
theorem dX10_puts_36 : decode k_X10_puts.2.1 36 = .ok (.iload 5, 2) := by decide +kernel
theorem dX10_puts_38 : decode k_X10_puts.2.1 38 = .ok (.iadd, 1) := by decide +kernel
theorem dX10_puts_39 : decode k_X10_puts.2.1 39 = .ok (.iaload, 1) := by decide +kernel
theorem dX10_puts_40 : decode k_X10_puts.2.1 40 = .ok (.iastore, 1) := by decide +kernel
theorem dX10_puts_41 : decode k_X10_puts.2.1 41 = .ok (.iinc 4 1, 3) := by decide +kernel
theorem dX10_puts_44 : decode k_X10_puts.2.1 44 = .ok (.goto 39, 3) := by decide +kernel
theorem dX10_puts_47 : decode k_X10_puts.2.1 47 = .ok (.iconst 0, 1) := by decide +kernel
theorem dX10_puts_48 : decode k_X10_puts.2.1 48 = .ok (.istore 6, 2) := by decide +kernel
theorem dX10_puts_50 : decode k_X10_puts.2.1 50 = .ok (.iload 6, 2) := by decide +kernel
theorem dX10_puts_52 : decode k_X10_puts.2.1 52 = .ok (.aload_n 0, 1) := by decide +kernel
theorem dX10_puts_53 : decode k_X10_puts.2.1 53 = .ok (.iload_n 3, 1) := by decide +kernel
theorem dX10_puts_54 : decode k_X10_puts.2.1 54 = .ok (.invokevirtual 106, 3) := by decide +kernel
theorem dX10_puts_57 : decode k_X10_puts.2.1 57 = .ok (.if_icmp .ge 26, 3) := by decide +kernel
theorem dX10_puts_60 : decode k_X10_puts.2.1 60 = .ok (.aload_n 0, 1) := by decide +kernel
theorem dX10_puts_61 : decode k_X10_puts.2.1 61 = .ok (.getfield 82, 3) := by decide +kernel
theorem dX10_puts_64 : decode k_X10_puts.2.1 64 = .ok (.iload 4, 2) := by decide +kernel
theorem dX10_puts_66 : decode k_X10_puts.2.1 66 = .ok (.aload_n 0, 1) := by decide +kernel
theorem dX10_puts_67 : decode k_X10_puts.2.1 67 = .ok (.iload_n 3, 1) := by decide +kernel
theorem dX10_puts_68 : decode k_X10_puts.2.1 68 = .ok (.iload 6, 2) := by decide +kernel
theorem dX10_puts_70 : decode k_X10_puts.2.1 70 = .ok (.invokevirtual 113, 3) := by decide +kernel
theorem dX10_puts_73 : decode k_X10_puts.2.1 73 = .ok (.iastore, 1) := by decide +kernel
theorem dX10_puts_74 : decode k_X10_puts.2.1 74 = .ok (.iinc 4 1, 3) := by decide +kernel
theorem dX10_puts_77 : decode k_X10_puts.2.1 77 = .ok (.iinc 6 1, 3) := by decide +kernel
theorem dX10_puts_80 : decode k_X10_puts.2.1 80 = .ok (.goto (-30), 3) := by decide +kernel
theorem dX10_puts_83 : decode k_X10_puts.2.1 83 = .ok (.iinc 5 1, 3) := by decide +kernel
theorem dX10_puts_86 : decode k_X10_puts.2.1 86 = .ok (.goto (-80), 3) := by decide +kernel
theorem dX10_puts_89 : decode k_X10_puts.2.1 89 = .ok (.aload_n 0, 1) := by decide +kernel
theorem dX10_puts_90 : decode k_X10_puts.2.1 90 = .ok (.getfield 82, 3) := by decide +kernel
theorem dX10_puts_93 : decode k_X10_puts.2.1 93 = .ok (.iconst 0, 1) := by decide +kernel
theorem dX10_puts_94 : decode k_X10_puts.2.1 94 = .ok (.aload_n 0, 1) := by decide +kernel
theorem dX10_puts_95 : decode k_X10_puts.2.1 95 = .ok (.getfield 13, 3) := by decide +kernel
theorem dX10_puts_98 : decode k_X10_puts.2.1 98 = .ok (.iload_n 1, 1) := by decide +kernel
theorem dX10_puts_99 : decode k_X10_puts.2.1 99 = .ok (.iload 4, 2) := by decide +kernel
theorem dX10_puts_101 : decode k_X10_puts.2.1 101 = .ok (.invokestatic 88, 3) := by decide +kernel
theorem dX10_puts_104 : decode k_X10_puts.2.1 104 = .ok (.iload 4, 2) := by decide +kernel
theorem dX10_puts_106 : decode k_X10_puts.2.1 106 = .ok (.ireturn, 1) := by decide +kernel
theorem dX10_drops_0 : decode k_X10_drops.2.1 0 = .ok (.aload_n 0, 1) := by decide +kernel
theorem dX10_drops_1 : decode k_X10_drops.2.1 1 = .ok (.getfield 13, 3) := by decide +kernel
theorem dX10_drops_4 : decode k_X10_drops.2.1 4 = .ok (.iconst 0, 1) := by decide +kernel
theorem dX10_drops_5 : decode k_X10_drops.2.1 5 = .ok (.aload_n 0, 1) := by decide +kernel
theorem dX10_drops_6 : decode k_X10_drops.2.1 6 = .ok (.iconst 1, 1) := by decide +kernel
theorem dX10_drops_7 : decode k_X10_drops.2.1 7 = .ok (.aload_n 0, 1) := by decide +kernel
theorem dX10_drops_8 : decode k_X10_drops.2.1 8 = .ok (.invokevirtual 123, 3) := by decide +kernel
theorem dX10_drops_11 : decode k_X10_drops.2.1 11 = .ok (.iload_n 1, 1) := by decide +kernel
theorem dX10_drops_12 : decode k_X10_drops.2.1 12 = .ok (.invokevirtual 255, 3) := by decide +kernel
theorem dX10_drops_15 : decode k_X10_drops.2.1 15 = .ok (.iastore, 1) := by decide +kernel
theorem dX10_drops_16 : decode k_X10_drops.2.1 16 = .ok (.bipush 26, 2) := by decide +kernel
theorem dX10_drops_18 : decode k_X10_drops.2.1 18 = .ok (.istore_n 2, 1) := by decide +kernel
theorem dX10_drops_19 : decode k_X10_drops.2.1 19 = .ok (.iload_n 2, 1) := by decide +kernel
theorem dX10_drops_20 : decode k_X10_drops.2.1 20 = .ok (.bipush 86, 2) := by decide +kernel
theorem dX10_drops_22 : decode k_X10_drops.2.1 22 = .ok (.if_icmp .ge 48, 3) := by decide +kernel
theorem dX10_drops_25 : decode k_X10_drops.2.1 25 = .ok (.iload_n 2, 1) := by decide +kernel
theorem dX10_drops_26 : decode k_X10_drops.2.1 26 = .ok (.iload_n 1, 1) := by decide +kernel
theorem dX10_drops_27 : decode k_X10_drops.2.1 27 = .ok (.if_icmp .eq 37, 3) := by decide +kernel
theorem dX10_drops_30 : decode k_X10_drops.2.1 30 = .ok (.aload_n 0, 1) := by decide +kernel
theorem dX10_drops_31 : decode k_X10_drops.2.1 31 = .ok (.iload_n 2, 1) := by decide +kernel
theorem dX10_drops_32 : decode k_X10_drops.2.1 32 = .ok (.iload_n 1, 1) := by decide +kernel
theorem dX10_drops_33 : decode k_X10_drops.2.1 33 = .ok (.invokevirtual 252, 3) := by decide +kernel
theorem dX10_drops_36 : decode k_X10_drops.2.1 36 = .ok (.ifCond .le 28, 3) := by decide +kernel
theorem dX10_drops_39 : decode k_X10_drops.2.1 39 = .ok (.aload_n 0, 1) := by decide +kernel
theorem dX10_drops_40 : decode k_X10_drops.2.1 40 = .ok (.getfield 13, 3) := by decide +kernel
theorem dX10_drops_43 : decode k_X10_drops.2.1 43 = .ok (.iload_n 2, 1) := by decide +kernel
theorem dX10_drops_44 : decode k_X10_drops.2.1 44 = .ok (.invokestatic 92, 3) := by decide +kernel
theorem dX10_drops_47 : decode k_X10_drops.2.1 47 = .ok (.aload_n 0, 1) := by decide +kernel
theorem dX10_drops_48 : decode k_X10_drops.2.1 48 = .ok (.iload_n 2, 1) := by decide +kernel
theorem dX10_drops_49 : decode k_X10_drops.2.1 49 = .ok (.invokestatic 92, 3) := by decide +kernel
theorem dX10_drops_52 : decode k_X10_drops.2.1 52 = .ok (.iconst 1, 1) := by decide +kernel
theorem dX10_drops_53 : decode k_X10_drops.2.1 53 = .ok (.iadd, 1) := by decide +kernel
theorem dX10_drops_54 : decode k_X10_drops.2.1 54 = .ok (.aload_n 0, 1) := by decide +kernel
theorem dX10_drops_55 : decode k_X10_drops.2.1 55 = .ok (.iload_n 2, 1) := by decide +kernel
theorem dX10_drops_56 : decode k_X10_drops.2.1 56 = .ok (.invokevirtual 106, 3) := by decide +kernel
theorem dX10_drops_59 : decode k_X10_drops.2.1 59 = .ok (.iload_n 1, 1) := by decide +kernel
theorem dX10_drops_60 : decode k_X10_drops.2.1 60 = .ok (.invokevirtual 255, 3) := by decide +kernel
theorem dX10_drops_63 : decode k_X10_drops.2.1 63 = .ok (.iastore, 1) := by decide +kernel
theorem dX10_drops_64 : decode k_X10_drops.2.1 64 = .ok (.iinc 2 1, 3) := by decide +kernel
theorem dX10_drops_67 : decode k_X10_drops.2.1 67 = .ok (.goto (-48), 3) := by decide +kernel
theorem dX10_drops_70 : decode k_X10_drops.2.1 70 = .ok (.aload_n 0, 1) := by decide +kernel
theorem dX10_drops_71 : decode k_X10_drops.2.1 71 = .ok (.getfield 13, 3) := by decide +kernel
theorem dX10_drops_74 : decode k_X10_drops.2.1 74 = .ok (.iload_n 1, 1) := by decide +kernel
theorem dX10_drops_75 : decode k_X10_drops.2.1 75 = .ok (.invokestatic 92, 3) := by decide +kernel
theorem dX10_drops_78 : decode k_X10_drops.2.1 78 = .ok (.iconst 0, 1) := by decide +kernel
theorem dX10_drops_79 : decode k_X10_drops.2.1 79 = .ok (.iastore, 1) := by decide +kernel
theorem dX10_drops_80 : decode k_X10_drops.2.1 80 = .ok (.return_, 1) := by decide +kernel
theorem dX10_sizeNow_0 : decode k_X10_sizeNow.2.1 0 = .ok (.aload_n 0, 1) := by decide +kernel
theorem dX10_sizeNow_1 : decode k_X10_sizeNow.2.1 1 = .ok (.invokevirtual 123, 3) := by decide +kernel
theorem dX10_sizeNow_4 : decode k_X10_sizeNow.2.1 4 = .ok (.istore_n 1, 1) := by decide +kernel
theorem dX10_sizeNow_5 : decode k_X10_sizeNow.2.1 5 = .ok (.bipush 26, 2) := by decide +kernel
theorem dX10_sizeNow_7 : decode k_X10_sizeNow.2.1 7 = .ok (.istore_n 2, 1) := by decide +kernel
theorem dX10_sizeNow_8 : decode k_X10_sizeNow.2.1 8 = .ok (.iload_n 2, 1) := by decide +kernel
theorem dX10_sizeNow_9 : decode k_X10_sizeNow.2.1 9 = .ok (.bipush 86, 2) := by decide +kernel
theorem dX10_sizeNow_11 : decode k_X10_sizeNow.2.1 11 = .ok (.if_icmp .ge 17, 3) := by decide +kernel
theorem dX10_sizeNow_14 : decode k_X10_sizeNow.2.1 14 = .ok (.iload_n 1, 1) := by decide +kernel
theorem dX10_sizeNow_15 : decode k_X10_sizeNow.2.1 15 = .ok (.aload_n 0, 1) := by decide +kernel
theorem dX10_sizeNow_16 : decode k_X10_sizeNow.2.1 16 = .ok (.iload_n 2, 1) := by decide +kernel
theorem dX10_sizeNow_17 : decode k_X10_sizeNow.2.1 17 = .ok (.invokevirtual 106, 3) := by decide +kernel
theorem dX10_sizeNow_20 : decode k_X10_sizeNow.2.1 20 = .ok (.iadd, 1) := by decide +kernel
theorem dX10_sizeNow_21 : decode k_X10_sizeNow.2.1 21 = .ok (.istore_n 1, 1) := by decide +kernel
theorem dX10_sizeNow_22 : decode k_X10_sizeNow.2.1 22 = .ok (.iinc 2 1, 3) := by decide +kernel
theorem dX10_sizeNow_25 : decode k_X10_sizeNow.2.1 25 = .ok (.goto (-17), 3) := by decide +kernel
theorem dX10_sizeNow_28 : decode k_X10_sizeNow.2.1 28 = .ok (.iload_n 1, 1) := by decide +kernel
theorem dX10_sizeNow_29 : decode k_X10_sizeNow.2.1 29 = .ok (.ireturn, 1) := by decide +kernel
theorem dX10_drop_0 : decode k_X10_drop.2.1 0 = .ok (.aload_n 0, 1) := by decide +kernel
theorem dX10_drop_1 : decode k_X10_drop.2.1 1 = .ok (.iconst 0, 1) := by decide +kernel
theorem dX10_drop_2 : decode k_X10_drop.2.1 2 = .ok (.putfield 1, 3) := by decide +kernel
theorem dX10_drop_5 : decode k_X10_drop.2.1 5 = .ok (.aload_n 0, 1) := by decide +kernel
theorem dX10_drop_6 : decode k_X10_drop.2.1 6 = .ok (.iload_n 1, 1) := by decide +kernel
theorem dX10_drop_7 : decode k_X10_drop.2.1 7 = .ok (.invokevirtual 210, 3) := by decide +kernel
theorem dX10_drop_10 : decode k_X10_drop.2.1 10 = .ok (.ifCond .eq 9, 3) := by decide +kernel
theorem dX10_drop_13 : decode k_X10_drop.2.1 13 = .ok (.iload_n 1, 1) := by decide +kernel
theorem dX10_drop_14 : decode k_X10_drop.2.1 14 = .ok (.bipush 26, 2) := by decide +kernel
theorem dX10_drop_16 : decode k_X10_drop.2.1 16 = .ok (.if_icmp .ge 6, 3) := by decide +kernel
theorem dX10_drop_19 : decode k_X10_drop.2.1 19 = .ok (.bipush (-2), 2) := by decide +kernel
theorem dX10_drop_21 : decode k_X10_drop.2.1 21 = .ok (.ireturn, 1) := by decide +kernel
theorem dX10_drop_22 : decode k_X10_drop.2.1 22 = .ok (.aload_n 0, 1) := by decide +kernel
theorem dX10_drop_23 : decode k_X10_drop.2.1 23 = .ok (.iload_n 1, 1) := by decide +kernel
theorem dX10_drop_24 : decode k_X10_drop.2.1 24 = .ok (.invokevirtual 258, 3) := by decide +kernel
theorem dX10_drop_27 : decode k_X10_drop.2.1 27 = .ok (.ifCond .ne 6, 3) := by decide +kernel
theorem dX10_drop_30 : decode k_X10_drop.2.1 30 = .ok (.bipush (-5), 2) := by decide +kernel
theorem dX10_drop_32 : decode k_X10_drop.2.1 32 = .ok (.ireturn, 1) := by decide +kernel
theorem dX10_drop_33 : decode k_X10_drop.2.1 33 = .ok (.aload_n 0, 1) := by decide +kernel
theorem dX10_drop_34 : decode k_X10_drop.2.1 34 = .ok (.invokevirtual 171, 3) := by decide +kernel
theorem dX10_drop_37 : decode k_X10_drop.2.1 37 = .ok (.aload_n 0, 1) := by decide +kernel
theorem dX10_drop_38 : decode k_X10_drop.2.1 38 = .ok (.iload_n 1, 1) := by decide +kernel
theorem dX10_drop_39 : decode k_X10_drop.2.1 39 = .ok (.invokevirtual 261, 3) := by decide +kernel
theorem dX10_drop_42 : decode k_X10_drop.2.1 42 = .ok (.aload_n 0, 1) := by decide +kernel
theorem dX10_drop_43 : decode k_X10_drop.2.1 43 = .ok (.invokevirtual 264, 3) := by decide +kernel
theorem dX10_drop_46 : decode k_X10_drop.2.1 46 = .ok (.ireturn, 1) := by decide +kernel
theorem dX10_idle_0 : decode k_X10_idle.2.1 0 = .ok (.bipush 26, 2) := by decide +kernel
theorem dX10_idle_2 : decode k_X10_idle.2.1 2 = .ok (.istore_n 1, 1) := by decide +kernel
theorem dX10_idle_3 : decode k_X10_idle.2.1 3 = .ok (.iload_n 1, 1) := by decide +kernel
theorem dX10_idle_4 : decode k_X10_idle.2.1 4 = .ok (.bipush 86, 2) := by decide +kernel
theorem dX10_idle_6 : decode k_X10_idle.2.1 6 = .ok (.if_icmp .ge 46, 3) := by decide +kernel
theorem dX10_idle_9 : decode k_X10_idle.2.1 9 = .ok (.aload_n 0, 1) := by decide +kernel
theorem dX10_idle_10 : decode k_X10_idle.2.1 10 = .ok (.iload_n 1, 1) := by decide +kernel
theorem dX10_idle_11 : decode k_X10_idle.2.1 11 = .ok (.invokevirtual 106, 3) := by decide +kernel
theorem dX10_idle_14 : decode k_X10_idle.2.1 14 = .ok (.ifCond .le 11, 3) := by decide +kernel
theorem dX10_idle_17 : decode k_X10_idle.2.1 17 = .ok (.aload_n 0, 1) := by decide +kernel
theorem dX10_idle_18 : decode k_X10_idle.2.1 18 = .ok (.iload_n 1, 1) := by decide +kernel
theorem dX10_idle_19 : decode k_X10_idle.2.1 19 = .ok (.invokevirtual 267, 3) := by decide +kernel
theorem dX10_idle_22 : decode k_X10_idle.2.1 22 = .ok (.goto 4, 3) := by decide +kernel
theorem dX10_idle_25 : decode k_X10_idle.2.1 25 = .ok (.iconst 2, 1) := by decide +kernel
theorem dX10_idle_26 : decode k_X10_idle.2.1 26 = .ok (.istore_n 2, 1) := by decide +kernel
theorem dX10_idle_27 : decode k_X10_idle.2.1 27 = .ok (.iload_n 2, 1) := by decide +kernel
theorem dX10_idle_28 : decode k_X10_idle.2.1 28 = .ok (.ifCond .eq 16, 3) := by decide +kernel
theorem dX10_idle_31 : decode k_X10_idle.2.1 31 = .ok (.iload_n 2, 1) := by decide +kernel
theorem dX10_idle_32 : decode k_X10_idle.2.1 32 = .ok (.iconst 1, 1) := by decide +kernel
theorem dX10_idle_33 : decode k_X10_idle.2.1 33 = .ok (.if_icmp .ne 13, 3) := by decide +kernel
theorem dX10_idle_36 : decode k_X10_idle.2.1 36 = .ok (.aload_n 0, 1) := by decide +kernel
theorem dX10_idle_37 : decode k_X10_idle.2.1 37 = .ok (.iload_n 1, 1) := by decide +kernel
theorem dX10_idle_38 : decode k_X10_idle.2.1 38 = .ok (.invokevirtual 258, 3) := by decide +kernel
theorem dX10_idle_41 : decode k_X10_idle.2.1 41 = .ok (.ifCond .eq 5, 3) := by decide +kernel
theorem dX10_idle_44 : decode k_X10_idle.2.1 44 = .ok (.iload_n 1, 1) := by decide +kernel
theorem dX10_idle_45 : decode k_X10_idle.2.1 45 = .ok (.ireturn, 1) := by decide +kernel
theorem dX10_idle_46 : decode k_X10_idle.2.1 46 = .ok (.iinc 1 1, 3) := by decide +kernel
theorem dX10_idle_49 : decode k_X10_idle.2.1 49 = .ok (.goto (-46), 3) := by decide +kernel
theorem dX10_idle_52 : decode k_X10_idle.2.1 52 = .ok (.iconst (-1), 1) := by decide +kernel
theorem dX10_idle_53 : decode k_X10_idle.2.1 53 = .ok (.ireturn, 1) := by decide +kernel
theorem dX10_trim_0 : decode k_X10_trim.2.1 0 = .ok (.aload_n 0, 1) := by decide +kernel
theorem dX10_trim_1 : decode k_X10_trim.2.1 1 = .ok (.iconst 0, 1) := by decide +kernel
theorem dX10_trim_2 : decode k_X10_trim.2.1 2 = .ok (.putfield 1, 3) := by decide +kernel
theorem dX10_trim_5 : decode k_X10_trim.2.1 5 = .ok (.aload_n 0, 1) := by decide +kernel
theorem dX10_trim_6 : decode k_X10_trim.2.1 6 = .ok (.invokevirtual 171, 3) := by decide +kernel
theorem dX10_trim_9 : decode k_X10_trim.2.1 9 = .ok (.iconst 0, 1) := by decide +kernel
theorem dX10_trim_10 : decode k_X10_trim.2.1 10 = .ok (.istore_n 1, 1) := by decide +kernel
theorem dX10_trim_11 : decode k_X10_trim.2.1 11 = .ok (.aload_n 0, 1) := by decide +kernel
theorem dX10_trim_12 : decode k_X10_trim.2.1 12 = .ok (.invokevirtual 270, 3) := by decide +kernel
theorem dX10_trim_15 : decode k_X10_trim.2.1 15 = .ok (.istore_n 2, 1) := by decide +kernel
theorem dX10_trim_16 : decode k_X10_trim.2.1 16 = .ok (.iload_n 2, 1) := by decide +kernel
theorem dX10_trim_17 : decode k_X10_trim.2.1 17 = .ok (.iconst (-1), 1) := by decide +kernel
theorem dX10_trim_18 : decode k_X10_trim.2.1 18 = .ok (.if_icmp .eq 19, 3) := by decide +kernel
theorem dX10_trim_21 : decode k_X10_trim.2.1 21 = .ok (.aload_n 0, 1) := by decide +kernel
theorem dX10_trim_22 : decode k_X10_trim.2.1 22 = .ok (.iload_n 2, 1) := by decide +kernel
theorem dX10_trim_23 : decode k_X10_trim.2.1 23 = .ok (.invokevirtual 261, 3) := by decide +kernel
theorem dX10_trim_26 : decode k_X10_trim.2.1 26 = .ok (.iinc 1 1, 3) := by decide +kernel
theorem dX10_trim_29 : decode k_X10_trim.2.1 29 = .ok (.aload_n 0, 1) := by decide +kernel
theorem dX10_trim_30 : decode k_X10_trim.2.1 30 = .ok (.invokevirtual 270, 3) := by decide +kernel
theorem dX10_trim_33 : decode k_X10_trim.2.1 33 = .ok (.istore_n 2, 1) := by decide +kernel
theorem dX10_trim_34 : decode k_X10_trim.2.1 34 = .ok (.goto (-18), 3) := by decide +kernel
theorem dX10_trim_37 : decode k_X10_trim.2.1 37 = .ok (.iload_n 1, 1) := by decide +kernel
theorem dX10_trim_38 : decode k_X10_trim.2.1 38 = .ok (.ireturn, 1) := by decide +kernel
theorem dX10_unpack_0 : decode k_X10_unpack.2.1 0 = .ok (.aload_n 0, 1) := by decide +kernel
theorem dX10_unpack_1 : decode k_X10_unpack.2.1 1 = .ok (.iconst 0, 1) := by decide +kernel
theorem dX10_unpack_2 : decode k_X10_unpack.2.1 2 = .ok (.putfield 1, 3) := by decide +kernel
theorem dX10_unpack_5 : decode k_X10_unpack.2.1 5 = .ok (.aload_n 0, 1) := by decide +kernel
theorem dX10_unpack_6 : decode k_X10_unpack.2.1 6 = .ok (.invokevirtual 171, 3) := by decide +kernel
theorem dX10_unpack_9 : decode k_X10_unpack.2.1 9 = .ok (.aload_n 0, 1) := by decide +kernel
theorem dX10_unpack_10 : decode k_X10_unpack.2.1 10 = .ok (.invokevirtual 224, 3) := by decide +kernel
theorem dX10_unpack_13 : decode k_X10_unpack.2.1 13 = .ok (.iconst 0, 1) := by decide +kernel
theorem dX10_unpack_14 : decode k_X10_unpack.2.1 14 = .ok (.istore_n 1, 1) := by decide +kernel
theorem dX10_unpack_15 : decode k_X10_unpack.2.1 15 = .ok (.iload_n 1, 1) := by decide +kernel
theorem dX10_unpack_16 : decode k_X10_unpack.2.1 16 = .ok (.sipush 1021, 3) := by decide +kernel
theorem dX10_unpack_19 : decode k_X10_unpack.2.1 19 = .ok (.if_icmp .ge 16, 3) := by decide +kernel
theorem dX10_unpack_22 : decode k_X10_unpack.2.1 22 = .ok (.aload_n 0, 1) := by decide +kernel
theorem dX10_unpack_23 : decode k_X10_unpack.2.1 23 = .ok (.getfield 13, 3) := by decide +kernel
theorem dX10_unpack_26 : decode k_X10_unpack.2.1 26 = .ok (.iload_n 1, 1) := by decide +kernel
theorem dX10_unpack_27 : decode k_X10_unpack.2.1 27 = .ok (.iconst 0, 1) := by decide +kernel
theorem dX10_unpack_28 : decode k_X10_unpack.2.1 28 = .ok (.iastore, 1) := by decide +kernel
theorem dX10_unpack_29 : decode k_X10_unpack.2.1 29 = .ok (.iinc 1 1, 3) := by decide +kernel
theorem dX10_unpack_32 : decode k_X10_unpack.2.1 32 = .ok (.goto (-17), 3) := by decide +kernel
theorem dX10_unpack_35 : decode k_X10_unpack.2.1 35 = .ok (.aload_n 0, 1) := by decide +kernel
theorem dX10_unpack_36 : decode k_X10_unpack.2.1 36 = .ok (.getfield 36, 3) := by decide +kernel
theorem dX10_unpack_39 : decode k_X10_unpack.2.1 39 = .ok (.iconst 0, 1) := by decide +kernel
theorem dX10_unpack_40 : decode k_X10_unpack.2.1 40 = .ok (.aload_n 0, 1) := by decide +kernel
theorem dX10_unpack_41 : decode k_X10_unpack.2.1 41 = .ok (.getfield 13, 3) := by decide +kernel
theorem dX10_unpack_44 : decode k_X10_unpack.2.1 44 = .ok (.iconst 1, 1) := by decide +kernel
theorem dX10_unpack_45 : decode k_X10_unpack.2.1 45 = .ok (.aload_n 0, 1) := by decide +kernel
theorem dX10_unpack_46 : decode k_X10_unpack.2.1 46 = .ok (.getfield 120, 3) := by decide +kernel
theorem dX10_unpack_49 : decode k_X10_unpack.2.1 49 = .ok (.invokestatic 88, 3) := by decide +kernel
theorem dX10_unpack_52 : decode k_X10_unpack.2.1 52 = .ok (.aload_n 0, 1) := by decide +kernel
theorem dX10_unpack_53 : decode k_X10_unpack.2.1 53 = .ok (.getfield 13, 3) := by decide +kernel
theorem dX10_unpack_56 : decode k_X10_unpack.2.1 56 = .ok (.iconst 0, 1) := by decide +kernel
theorem dX10_unpack_57 : decode k_X10_unpack.2.1 57 = .ok (.aload_n 0, 1) := by decide +kernel
theorem dX10_unpack_58 : decode k_X10_unpack.2.1 58 = .ok (.getfield 120, 3) := by decide +kernel
theorem dX10_unpack_61 : decode k_X10_unpack.2.1 61 = .ok (.iastore, 1) := by decide +kernel
theorem dX10_unpack_62 : decode k_X10_unpack.2.1 62 = .ok (.aload_n 0, 1) := by decide +kernel
theorem dX10_unpack_63 : decode k_X10_unpack.2.1 63 = .ok (.getfield 120, 3) := by decide +kernel
theorem dX10_unpack_66 : decode k_X10_unpack.2.1 66 = .ok (.ireturn, 1) := by decide +kernel
theorem dX10_opens_0 : decode k_X10_opens.2.1 0 = .ok (.aload_n 0, 1) := by decide +kernel
theorem dX10_opens_1 : decode k_X10_opens.2.1 1 = .ok (.invokevirtual 134, 3) := by decide +kernel
theorem dX10_opens_4 : decode k_X10_opens.2.1 4 = .ok (.iconst 0, 1) := by decide +kernel
theorem dX10_opens_5 : decode k_X10_opens.2.1 5 = .ok (.istore_n 2, 1) := by decide +kernel
theorem dX10_opens_6 : decode k_X10_opens.2.1 6 = .ok (.iconst 0, 1) := by decide +kernel
theorem dX10_opens_7 : decode k_X10_opens.2.1 7 = .ok (.istore_n 3, 1) := by decide +kernel
theorem dX10_opens_8 : decode k_X10_opens.2.1 8 = .ok (.iload_n 3, 1) := by decide +kernel
theorem dX10_opens_9 : decode k_X10_opens.2.1 9 = .ok (.iload_n 1, 1) := by decide +kernel
theorem dX10_opens_10 : decode k_X10_opens.2.1 10 = .ok (.if_icmp .ge 139, 3) := by decide +kernel
theorem dX10_opens_13 : decode k_X10_opens.2.1 13 = .ok (.aload_n 0, 1) := by decide +kernel
theorem dX10_opens_14 : decode k_X10_opens.2.1 14 = .ok (.iload_n 2, 1) := by decide +kernel
theorem dX10_opens_15 : decode k_X10_opens.2.1 15 = .ok (.invokevirtual 127, 3) := by decide +kernel
theorem dX10_opens_18 : decode k_X10_opens.2.1 18 = .ok (.istore 4, 2) := by decide +kernel
theorem dX10_opens_20 : decode k_X10_opens.2.1 20 = .ok (.iload_n 3, 1) := by decide +kernel
theorem dX10_opens_21 : decode k_X10_opens.2.1 21 = .ok (.aload_n 0, 1) := by decide +kernel
theorem dX10_opens_22 : decode k_X10_opens.2.1 22 = .ok (.getfield 30, 3) := by decide +kernel
theorem dX10_opens_25 : decode k_X10_opens.2.1 25 = .ok (.iload 4, 2) := by decide +kernel
theorem dX10_opens_27 : decode k_X10_opens.2.1 27 = .ok (.iaload, 1) := by decide +kernel
theorem dX10_opens_28 : decode k_X10_opens.2.1 28 = .ok (.iadd, 1) := by decide +kernel
theorem dX10_opens_29 : decode k_X10_opens.2.1 29 = .ok (.iload_n 1, 1) := by decide +kernel
theorem dX10_opens_30 : decode k_X10_opens.2.1 30 = .ok (.if_icmp .gt 19, 3) := by decide +kernel
theorem dX10_opens_33 : decode k_X10_opens.2.1 33 = .ok (.iload_n 3, 1) := by decide +kernel
theorem dX10_opens_34 : decode k_X10_opens.2.1 34 = .ok (.aload_n 0, 1) := by decide +kernel
theorem dX10_opens_35 : decode k_X10_opens.2.1 35 = .ok (.getfield 30, 3) := by decide +kernel
theorem dX10_opens_38 : decode k_X10_opens.2.1 38 = .ok (.iload 4, 2) := by decide +kernel
theorem dX10_opens_40 : decode k_X10_opens.2.1 40 = .ok (.iaload, 1) := by decide +kernel
theorem dX10_opens_41 : decode k_X10_opens.2.1 41 = .ok (.iadd, 1) := by decide +kernel
theorem dX10_opens_42 : decode k_X10_opens.2.1 42 = .ok (.istore_n 3, 1) := by decide +kernel
theorem dX10_opens_43 : decode k_X10_opens.2.1 43 = .ok (.iinc 2 1, 3) := by decide +kernel
theorem dX10_opens_46 : decode k_X10_opens.2.1 46 = .ok (.goto (-38), 3) := by decide +kernel
theorem dX10_opens_49 : decode k_X10_opens.2.1 49 = .ok (.aload_n 0, 1) := by decide +kernel
theorem dX10_opens_50 : decode k_X10_opens.2.1 50 = .ok (.iload 4, 2) := by decide +kernel
theorem dX10_opens_52 : decode k_X10_opens.2.1 52 = .ok (.invokevirtual 106, 3) := by decide +kernel
theorem dX10_opens_55 : decode k_X10_opens.2.1 55 = .ok (.iconst 1, 1) := by decide +kernel
theorem dX10_opens_56 : decode k_X10_opens.2.1 56 = .ok (.isub, 1) := by decide +kernel
theorem dX10_opens_57 : decode k_X10_opens.2.1 57 = .ok (.istore 5, 2) := by decide +kernel
theorem dX10_opens_59 : decode k_X10_opens.2.1 59 = .ok (.aload_n 0, 1) := by decide +kernel
theorem dX10_opens_60 : decode k_X10_opens.2.1 60 = .ok (.invokevirtual 123, 3) := by decide +kernel
theorem dX10_opens_63 : decode k_X10_opens.2.1 63 = .ok (.iconst 1, 1) := by decide +kernel
theorem dX10_opens_64 : decode k_X10_opens.2.1 64 = .ok (.isub, 1) := by decide +kernel
theorem dX10_opens_65 : decode k_X10_opens.2.1 65 = .ok (.istore 6, 2) := by decide +kernel
theorem dX10_opens_67 : decode k_X10_opens.2.1 67 = .ok (.iload 6, 2) := by decide +kernel
theorem dX10_opens_69 : decode k_X10_opens.2.1 69 = .ok (.iload_n 2, 1) := by decide +kernel
theorem dX10_opens_70 : decode k_X10_opens.2.1 70 = .ok (.if_icmp .le 30, 3) := by decide +kernel
theorem dX10_opens_73 : decode k_X10_opens.2.1 73 = .ok (.aload_n 0, 1) := by decide +kernel
theorem dX10_opens_74 : decode k_X10_opens.2.1 74 = .ok (.getfield 13, 3) := by decide +kernel
theorem dX10_opens_77 : decode k_X10_opens.2.1 77 = .ok (.iconst 1, 1) := by decide +kernel
theorem dX10_opens_78 : decode k_X10_opens.2.1 78 = .ok (.iload 6, 2) := by decide +kernel
theorem dX10_opens_80 : decode k_X10_opens.2.1 80 = .ok (.iadd, 1) := by decide +kernel
theorem dX10_opens_81 : decode k_X10_opens.2.1 81 = .ok (.iload 5, 2) := by decide +kernel
theorem dX10_opens_83 : decode k_X10_opens.2.1 83 = .ok (.iadd, 1) := by decide +kernel
theorem dX10_opens_84 : decode k_X10_opens.2.1 84 = .ok (.aload_n 0, 1) := by decide +kernel
theorem dX10_opens_85 : decode k_X10_opens.2.1 85 = .ok (.getfield 13, 3) := by decide +kernel
theorem dX10_opens_88 : decode k_X10_opens.2.1 88 = .ok (.iconst 1, 1) := by decide +kernel
theorem dX10_opens_89 : decode k_X10_opens.2.1 89 = .ok (.iload 6, 2) := by decide +kernel
theorem dX10_opens_91 : decode k_X10_opens.2.1 91 = .ok (.iadd, 1) := by decide +kernel
theorem dX10_opens_92 : decode k_X10_opens.2.1 92 = .ok (.iaload, 1) := by decide +kernel
theorem dX10_opens_93 : decode k_X10_opens.2.1 93 = .ok (.iastore, 1) := by decide +kernel
theorem dX10_opens_94 : decode k_X10_opens.2.1 94 = .ok (.iinc 6 (-1), 3) := by decide +kernel
theorem dX10_opens_97 : decode k_X10_opens.2.1 97 = .ok (.goto (-30), 3) := by decide +kernel
theorem dX10_opens_100 : decode k_X10_opens.2.1 100 = .ok (.iconst 0, 1) := by decide +kernel
theorem dX10_opens_101 : decode k_X10_opens.2.1 101 = .ok (.istore 6, 2) := by decide +kernel
theorem dX10_opens_103 : decode k_X10_opens.2.1 103 = .ok (.iload 6, 2) := by decide +kernel
theorem dX10_opens_105 : decode k_X10_opens.2.1 105 = .ok (.iload 5, 2) := by decide +kernel
theorem dX10_opens_107 : decode k_X10_opens.2.1 107 = .ok (.if_icmp .gt 28, 3) := by decide +kernel
theorem dX10_opens_110 : decode k_X10_opens.2.1 110 = .ok (.aload_n 0, 1) := by decide +kernel
theorem dX10_opens_111 : decode k_X10_opens.2.1 111 = .ok (.getfield 13, 3) := by decide +kernel
theorem dX10_opens_114 : decode k_X10_opens.2.1 114 = .ok (.iconst 1, 1) := by decide +kernel
theorem dX10_opens_115 : decode k_X10_opens.2.1 115 = .ok (.iload_n 2, 1) := by decide +kernel
theorem dX10_opens_116 : decode k_X10_opens.2.1 116 = .ok (.iadd, 1) := by decide +kernel
theorem dX10_opens_117 : decode k_X10_opens.2.1 117 = .ok (.iload 6, 2) := by decide +kernel
theorem dX10_opens_119 : decode k_X10_opens.2.1 119 = .ok (.iadd, 1) := by decide +kernel
theorem dX10_opens_120 : decode k_X10_opens.2.1 120 = .ok (.aload_n 0, 1) := by decide +kernel
theorem dX10_opens_121 : decode k_X10_opens.2.1 121 = .ok (.iload 4, 2) := by decide +kernel
theorem dX10_opens_123 : decode k_X10_opens.2.1 123 = .ok (.iload 6, 2) := by decide +kernel
theorem dX10_opens_125 : decode k_X10_opens.2.1 125 = .ok (.invokevirtual 113, 3) := by decide +kernel
theorem dX10_opens_128 : decode k_X10_opens.2.1 128 = .ok (.iastore, 1) := by decide +kernel
theorem dX10_opens_129 : decode k_X10_opens.2.1 129 = .ok (.iinc 6 1, 3) := by decide +kernel
theorem dX10_opens_132 : decode k_X10_opens.2.1 132 = .ok (.goto (-29), 3) := by decide +kernel
theorem dX10_opens_135 : decode k_X10_opens.2.1 135 = .ok (.aload_n 0, 1) := by decide +kernel
theorem dX10_opens_136 : decode k_X10_opens.2.1 136 = .ok (.getfield 13, 3) := by decide +kernel
theorem dX10_opens_139 : decode k_X10_opens.2.1 139 = .ok (.iconst 0, 1) := by decide +kernel
theorem dX10_opens_140 : decode k_X10_opens.2.1 140 = .ok (.dup2, 1) := by decide +kernel
theorem dX10_opens_141 : decode k_X10_opens.2.1 141 = .ok (.iaload, 1) := by decide +kernel
theorem dX10_opens_142 : decode k_X10_opens.2.1 142 = .ok (.iload 5, 2) := by decide +kernel
theorem dX10_opens_144 : decode k_X10_opens.2.1 144 = .ok (.iadd, 1) := by decide +kernel
theorem dX10_opens_145 : decode k_X10_opens.2.1 145 = .ok (.iastore, 1) := by decide +kernel
theorem dX10_opens_146 : decode k_X10_opens.2.1 146 = .ok (.goto (-138), 3) := by decide +kernel
theorem dX10_opens_149 : decode k_X10_opens.2.1 149 = .ok (.iload_n 2, 1) := by decide +kernel
theorem dX10_opens_150 : decode k_X10_opens.2.1 150 = .ok (.ireturn, 1) := by decide +kernel
theorem dX10_put_0 : decode k_X10_put.2.1 0 = .ok (.aload_n 0, 1) := by decide +kernel
theorem dX10_put_1 : decode k_X10_put.2.1 1 = .ok (.iconst 0, 1) := by decide +kernel
theorem dX10_put_2 : decode k_X10_put.2.1 2 = .ok (.putfield 1, 3) := by decide +kernel
theorem dX10_put_5 : decode k_X10_put.2.1 5 = .ok (.iload_n 2, 1) := by decide +kernel
theorem dX10_put_6 : decode k_X10_put.2.1 6 = .ok (.i2l, 1) := by decide +kernel
theorem dX10_put_7 : decode k_X10_put.2.1 7 = .ok (.lconst 0, 1) := by decide +kernel
theorem dX10_put_8 : decode k_X10_put.2.1 8 = .ok (.ldc2_w 96, 3) := by decide +kernel
theorem dX10_put_11 : decode k_X10_put.2.1 11 = .ok (.invokestatic 98, 3) := by decide +kernel
theorem dX10_put_14 : decode k_X10_put.2.1 14 = .ok (.ifCond .ne 6, 3) := by decide +kernel
theorem dX10_put_17 : decode k_X10_put.2.1 17 = .ok (.bipush (-2), 2) := by decide +kernel
theorem dX10_put_19 : decode k_X10_put.2.1 19 = .ok (.ireturn, 1) := by decide +kernel
theorem dX10_put_20 : decode k_X10_put.2.1 20 = .ok (.iload_n 1, 1) := by decide +kernel
theorem dX10_put_21 : decode k_X10_put.2.1 21 = .ok (.i2l, 1) := by decide +kernel
theorem dX10_put_22 : decode k_X10_put.2.1 22 = .ok (.lconst 0, 1) := by decide +kernel
theorem dX10_put_23 : decode k_X10_put.2.1 23 = .ok (.aload_n 0, 1) := by decide +kernel
theorem dX10_put_24 : decode k_X10_put.2.1 24 = .ok (.invokevirtual 174, 3) := by decide +kernel
theorem dX10_put_27 : decode k_X10_put.2.1 27 = .ok (.iconst 1, 1) := by decide +kernel
theorem dX10_put_28 : decode k_X10_put.2.1 28 = .ok (.isub, 1) := by decide +kernel
theorem dX10_put_29 : decode k_X10_put.2.1 29 = .ok (.i2l, 1) := by decide +kernel
theorem dX10_put_30 : decode k_X10_put.2.1 30 = .ok (.invokestatic 98, 3) := by decide +kernel
theorem dX10_put_33 : decode k_X10_put.2.1 33 = .ok (.ifCond .ne 6, 3) := by decide +kernel
theorem dX10_put_36 : decode k_X10_put.2.1 36 = .ok (.bipush (-5), 2) := by decide +kernel
theorem dX10_put_38 : decode k_X10_put.2.1 38 = .ok (.ireturn, 1) := by decide +kernel
theorem dX10_put_39 : decode k_X10_put.2.1 39 = .ok (.aload_n 0, 1) := by decide +kernel
theorem dX10_put_40 : decode k_X10_put.2.1 40 = .ok (.invokevirtual 171, 3) := by decide +kernel
theorem dX10_put_43 : decode k_X10_put.2.1 43 = .ok (.aload_n 0, 1) := by decide +kernel
theorem dX10_put_44 : decode k_X10_put.2.1 44 = .ok (.iload_n 1, 1) := by decide +kernel
theorem dX10_put_45 : decode k_X10_put.2.1 45 = .ok (.invokevirtual 273, 3) := by decide +kernel
theorem dX10_put_48 : decode k_X10_put.2.1 48 = .ok (.istore_n 3, 1) := by decide +kernel
theorem dX10_put_49 : decode k_X10_put.2.1 49 = .ok (.aload_n 0, 1) := by decide +kernel
theorem dX10_put_50 : decode k_X10_put.2.1 50 = .ok (.iload_n 1, 1) := by decide +kernel
theorem dX10_put_51 : decode k_X10_put.2.1 51 = .ok (.iconst 1, 1) := by decide +kernel
theorem dX10_put_52 : decode k_X10_put.2.1 52 = .ok (.iadd, 1) := by decide +kernel
theorem dX10_put_53 : decode k_X10_put.2.1 53 = .ok (.invokevirtual 273, 3) := by decide +kernel
theorem dX10_put_56 : decode k_X10_put.2.1 56 = .ok (.istore 4, 2) := by decide +kernel
theorem dX10_put_58 : decode k_X10_put.2.1 58 = .ok (.aload_n 0, 1) := by decide +kernel
theorem dX10_put_59 : decode k_X10_put.2.1 59 = .ok (.iload_n 3, 1) := by decide +kernel
theorem dX10_put_60 : decode k_X10_put.2.1 60 = .ok (.invokevirtual 127, 3) := by decide +kernel
theorem dX10_put_63 : decode k_X10_put.2.1 63 = .ok (.istore 5, 2) := by decide +kernel
theorem dX10_put_65 : decode k_X10_put.2.1 65 = .ok (.aload_n 0, 1) := by decide +kernel
theorem dX10_put_66 : decode k_X10_put.2.1 66 = .ok (.getfield 13, 3) := by decide +kernel
theorem dX10_put_69 : decode k_X10_put.2.1 69 = .ok (.iconst 1, 1) := by decide +kernel
theorem dX10_put_70 : decode k_X10_put.2.1 70 = .ok (.iload_n 3, 1) := by decide +kernel
theorem dX10_put_71 : decode k_X10_put.2.1 71 = .ok (.iadd, 1) := by decide +kernel
theorem dX10_put_72 : decode k_X10_put.2.1 72 = .ok (.iload_n 2, 1) := by decide +kernel
theorem dX10_put_73 : decode k_X10_put.2.1 73 = .ok (.iastore, 1) := by decide +kernel
theorem dX10_put_74 : decode k_X10_put.2.1 74 = .ok (.iload 5, 2) := by decide +kernel
theorem dX10_put_76 : decode k_X10_put.2.1 76 = .ok (.ireturn, 1) := by decide +kernel
theorem dX10_cut_0 : decode k_X10_cut.2.1 0 = .ok (.aload_n 0, 1) := by decide +kernel
theorem dX10_cut_1 : decode k_X10_cut.2.1 1 = .ok (.iconst 0, 1) := by decide +kernel
theorem dX10_cut_2 : decode k_X10_cut.2.1 2 = .ok (.putfield 1, 3) := by decide +kernel
theorem dX10_cut_5 : decode k_X10_cut.2.1 5 = .ok (.iload_n 2, 1) := by decide +kernel
theorem dX10_cut_6 : decode k_X10_cut.2.1 6 = .ok (.iconst 1, 1) := by decide +kernel
theorem dX10_cut_7 : decode k_X10_cut.2.1 7 = .ok (.if_icmp .ge 6, 3) := by decide +kernel
theorem dX10_cut_10 : decode k_X10_cut.2.1 10 = .ok (.bipush (-3), 2) := by decide +kernel
theorem dX10_cut_12 : decode k_X10_cut.2.1 12 = .ok (.ireturn, 1) := by decide +kernel
theorem dX10_cut_13 : decode k_X10_cut.2.1 13 = .ok (.aload_n 0, 1) := by decide +kernel
theorem dX10_cut_14 : decode k_X10_cut.2.1 14 = .ok (.invokevirtual 174, 3) := by decide +kernel
theorem dX10_cut_17 : decode k_X10_cut.2.1 17 = .ok (.istore_n 3, 1) := by decide +kernel
theorem dX10_cut_18 : decode k_X10_cut.2.1 18 = .ok (.iload_n 1, 1) := by decide +kernel
theorem dX10_cut_19 : decode k_X10_cut.2.1 19 = .ok (.ifCond .lt 14, 3) := by decide +kernel
theorem dX10_cut_22 : decode k_X10_cut.2.1 22 = .ok (.iload_n 1, 1) := by decide +kernel
theorem dX10_cut_23 : decode k_X10_cut.2.1 23 = .ok (.i2l, 1) := by decide +kernel
theorem dX10_cut_24 : decode k_X10_cut.2.1 24 = .ok (.iload_n 2, 1) := by decide +kernel
theorem dX10_cut_25 : decode k_X10_cut.2.1 25 = .ok (.i2l, 1) := by decide +kernel
theorem dX10_cut_26 : decode k_X10_cut.2.1 26 = .ok (.ladd, 1) := by decide +kernel
theorem dX10_cut_27 : decode k_X10_cut.2.1 27 = .ok (.iload_n 3, 1) := by decide +kernel
theorem dX10_cut_28 : decode k_X10_cut.2.1 28 = .ok (.i2l, 1) := by decide +kernel
theorem dX10_cut_29 : decode k_X10_cut.2.1 29 = .ok (.lcmp, 1) := by decide +kernel
theorem dX10_cut_30 : decode k_X10_cut.2.1 30 = .ok (.ifCond .le 6, 3) := by decide +kernel
theorem dX10_cut_33 : decode k_X10_cut.2.1 33 = .ok (.bipush (-5), 2) := by decide +kernel
theorem dX10_cut_35 : decode k_X10_cut.2.1 35 = .ok (.ireturn, 1) := by decide +kernel
theorem dX10_cut_36 : decode k_X10_cut.2.1 36 = .ok (.aload_n 0, 1) := by decide +kernel
theorem dX10_cut_37 : decode k_X10_cut.2.1 37 = .ok (.invokevirtual 171, 3) := by decide +kernel
theorem dX10_cut_40 : decode k_X10_cut.2.1 40 = .ok (.aload_n 0, 1) := by decide +kernel
theorem dX10_cut_41 : decode k_X10_cut.2.1 41 = .ok (.iload_n 1, 1) := by decide +kernel
theorem dX10_cut_42 : decode k_X10_cut.2.1 42 = .ok (.invokevirtual 273, 3) := by decide +kernel
theorem dX10_cut_45 : decode k_X10_cut.2.1 45 = .ok (.istore 4, 2) := by decide +kernel
theorem dX10_cut_47 : decode k_X10_cut.2.1 47 = .ok (.aload_n 0, 1) := by decide +kernel
theorem dX10_cut_48 : decode k_X10_cut.2.1 48 = .ok (.iload_n 1, 1) := by decide +kernel
theorem dX10_cut_49 : decode k_X10_cut.2.1 49 = .ok (.iload_n 2, 1) := by decide +kernel
theorem dX10_cut_50 : decode k_X10_cut.2.1 50 = .ok (.iadd, 1) := by decide +kernel
theorem dX10_cut_51 : decode k_X10_cut.2.1 51 = .ok (.invokevirtual 273, 3) := by decide +kernel
theorem dX10_cut_54 : decode k_X10_cut.2.1 54 = .ok (.istore 5, 2) := by decide +kernel
theorem dX10_cut_56 : decode k_X10_cut.2.1 56 = .ok (.iload 5, 2) := by decide +kernel
theorem dX10_cut_58 : decode k_X10_cut.2.1 58 = .ok (.istore 6, 2) := by decide +kernel
theorem dX10_cut_60 : decode k_X10_cut.2.1 60 = .ok (.iload 6, 2) := by decide +kernel
theorem dX10_cut_62 : decode k_X10_cut.2.1 62 = .ok (.aload_n 0, 1) := by decide +kernel
theorem dX10_cut_63 : decode k_X10_cut.2.1 63 = .ok (.invokevirtual 123, 3) := by decide +kernel
theorem dX10_cut_66 : decode k_X10_cut.2.1 66 = .ok (.if_icmp .ge 30, 3) := by decide +kernel
theorem dX10_cut_69 : decode k_X10_cut.2.1 69 = .ok (.aload_n 0, 1) := by decide +kernel
theorem dX10_cut_70 : decode k_X10_cut.2.1 70 = .ok (.getfield 13, 3) := by decide +kernel
theorem dX10_cut_73 : decode k_X10_cut.2.1 73 = .ok (.iconst 1, 1) := by decide +kernel
theorem dX10_cut_74 : decode k_X10_cut.2.1 74 = .ok (.iload 4, 2) := by decide +kernel
theorem dX10_cut_76 : decode k_X10_cut.2.1 76 = .ok (.iadd, 1) := by decide +kernel
theorem dX10_cut_77 : decode k_X10_cut.2.1 77 = .ok (.iload 6, 2) := by decide +kernel
theorem dX10_cut_79 : decode k_X10_cut.2.1 79 = .ok (.iadd, 1) := by decide +kernel
theorem dX10_cut_80 : decode k_X10_cut.2.1 80 = .ok (.iload 5, 2) := by decide +kernel
theorem dX10_cut_82 : decode k_X10_cut.2.1 82 = .ok (.isub, 1) := by decide +kernel
theorem dX10_cut_83 : decode k_X10_cut.2.1 83 = .ok (.aload_n 0, 1) := by decide +kernel
theorem dX10_cut_84 : decode k_X10_cut.2.1 84 = .ok (.iload 6, 2) := by decide +kernel
theorem dX10_cut_86 : decode k_X10_cut.2.1 86 = .ok (.invokevirtual 127, 3) := by decide +kernel
theorem dX10_cut_89 : decode k_X10_cut.2.1 89 = .ok (.iastore, 1) := by decide +kernel
theorem dX10_cut_90 : decode k_X10_cut.2.1 90 = .ok (.iinc 6 1, 3) := by decide +kernel
theorem dX10_cut_93 : decode k_X10_cut.2.1 93 = .ok (.goto (-33), 3) := by decide +kernel
theorem dX10_cut_96 : decode k_X10_cut.2.1 96 = .ok (.aload_n 0, 1) := by decide +kernel
theorem dX10_cut_97 : decode k_X10_cut.2.1 97 = .ok (.getfield 13, 3) := by decide +kernel
theorem dX10_cut_100 : decode k_X10_cut.2.1 100 = .ok (.iconst 0, 1) := by decide +kernel
theorem dX10_cut_101 : decode k_X10_cut.2.1 101 = .ok (.dup2, 1) := by decide +kernel
theorem dX10_cut_102 : decode k_X10_cut.2.1 102 = .ok (.iaload, 1) := by decide +kernel
theorem dX10_cut_103 : decode k_X10_cut.2.1 103 = .ok (.iload 5, 2) := by decide +kernel
theorem dX10_cut_105 : decode k_X10_cut.2.1 105 = .ok (.iload 4, 2) := by decide +kernel
theorem dX10_cut_107 : decode k_X10_cut.2.1 107 = .ok (.isub, 1) := by decide +kernel
theorem dX10_cut_108 : decode k_X10_cut.2.1 108 = .ok (.isub, 1) := by decide +kernel
theorem dX10_cut_109 : decode k_X10_cut.2.1 109 = .ok (.iastore, 1) := by decide +kernel
theorem dX10_cut_110 : decode k_X10_cut.2.1 110 = .ok (.iload_n 3, 1) := by decide +kernel
theorem dX10_cut_111 : decode k_X10_cut.2.1 111 = .ok (.iload_n 2, 1) := by decide +kernel
theorem dX10_cut_112 : decode k_X10_cut.2.1 112 = .ok (.isub, 1) := by decide +kernel
theorem dX10_cut_113 : decode k_X10_cut.2.1 113 = .ok (.ireturn, 1) := by decide +kernel
theorem dX10_insert_0 : decode k_X10_insert.2.1 0 = .ok (.aload_n 0, 1) := by decide +kernel
theorem dX10_insert_1 : decode k_X10_insert.2.1 1 = .ok (.iconst 0, 1) := by decide +kernel
theorem dX10_insert_2 : decode k_X10_insert.2.1 2 = .ok (.putfield 1, 3) := by decide +kernel
theorem dX10_insert_5 : decode k_X10_insert.2.1 5 = .ok (.iload_n 2, 1) := by decide +kernel
theorem dX10_insert_6 : decode k_X10_insert.2.1 6 = .ok (.i2l, 1) := by decide +kernel
theorem dX10_insert_7 : decode k_X10_insert.2.1 7 = .ok (.lconst 0, 1) := by decide +kernel
theorem dX10_insert_8 : decode k_X10_insert.2.1 8 = .ok (.ldc2_w 96, 3) := by decide +kernel
theorem dX10_insert_11 : decode k_X10_insert.2.1 11 = .ok (.invokestatic 98, 3) := by decide +kernel
theorem dX10_insert_14 : decode k_X10_insert.2.1 14 = .ok (.ifCond .ne 6, 3) := by decide +kernel
theorem dX10_insert_17 : decode k_X10_insert.2.1 17 = .ok (.bipush (-2), 2) := by decide +kernel
theorem dX10_insert_19 : decode k_X10_insert.2.1 19 = .ok (.ireturn, 1) := by decide +kernel
theorem dX10_insert_20 : decode k_X10_insert.2.1 20 = .ok (.aload_n 0, 1) := by decide +kernel
theorem dX10_insert_21 : decode k_X10_insert.2.1 21 = .ok (.invokevirtual 174, 3) := by decide +kernel
theorem dX10_insert_24 : decode k_X10_insert.2.1 24 = .ok (.istore_n 3, 1) := by decide +kernel
theorem dX10_insert_25 : decode k_X10_insert.2.1 25 = .ok (.iload_n 1, 1) := by decide +kernel
theorem dX10_insert_26 : decode k_X10_insert.2.1 26 = .ok (.i2l, 1) := by decide +kernel
theorem dX10_insert_27 : decode k_X10_insert.2.1 27 = .ok (.lconst 0, 1) := by decide +kernel
theorem dX10_insert_28 : decode k_X10_insert.2.1 28 = .ok (.iload_n 3, 1) := by decide +kernel
theorem dX10_insert_29 : decode k_X10_insert.2.1 29 = .ok (.i2l, 1) := by decide +kernel
theorem dX10_insert_30 : decode k_X10_insert.2.1 30 = .ok (.invokestatic 98, 3) := by decide +kernel
theorem dX10_insert_33 : decode k_X10_insert.2.1 33 = .ok (.ifCond .ne 6, 3) := by decide +kernel
theorem dX10_insert_36 : decode k_X10_insert.2.1 36 = .ok (.bipush (-5), 2) := by decide +kernel
theorem dX10_insert_38 : decode k_X10_insert.2.1 38 = .ok (.ireturn, 1) := by decide +kernel
