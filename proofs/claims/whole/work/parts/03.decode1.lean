theorem dX0_init_0 : decode k_X0_init.2.1 0 = .ok (.aload_n 0, 1) := by decide +kernel
theorem dX0_init_1 : decode k_X0_init.2.1 1 = .ok (.invokespecial 3, 3) := by decide +kernel
theorem dX0_init_4 : decode k_X0_init.2.1 4 = .ok (.aload_n 0, 1) := by decide +kernel
theorem dX0_init_5 : decode k_X0_init.2.1 5 = .ok (.bipush 86, 2) := by decide +kernel
theorem dX0_init_7 : decode k_X0_init.2.1 7 = .ok (.newarray .int, 2) := by decide +kernel
theorem dX0_init_9 : decode k_X0_init.2.1 9 = .ok (.putfield 9, 3) := by decide +kernel
theorem dX0_init_12 : decode k_X0_init.2.1 12 = .ok (.aload_n 0, 1) := by decide +kernel
theorem dX0_init_13 : decode k_X0_init.2.1 13 = .ok (.bipush 86, 2) := by decide +kernel
theorem dX0_init_15 : decode k_X0_init.2.1 15 = .ok (.newarray .int, 2) := by decide +kernel
theorem dX0_init_17 : decode k_X0_init.2.1 17 = .ok (.putfield 15, 3) := by decide +kernel
theorem dX0_init_20 : decode k_X0_init.2.1 20 = .ok (.aload_n 0, 1) := by decide +kernel
theorem dX0_init_21 : decode k_X0_init.2.1 21 = .ok (.bipush 86, 2) := by decide +kernel
theorem dX0_init_23 : decode k_X0_init.2.1 23 = .ok (.newarray .int, 2) := by decide +kernel
theorem dX0_init_25 : decode k_X0_init.2.1 25 = .ok (.putfield 18, 3) := by decide +kernel
theorem dX0_init_28 : decode k_X0_init.2.1 28 = .ok (.aload_n 0, 1) := by decide +kernel
theorem dX0_init_29 : decode k_X0_init.2.1 29 = .ok (.bipush 86, 2) := by decide +kernel
theorem dX0_init_31 : decode k_X0_init.2.1 31 = .ok (.newarray .int, 2) := by decide +kernel
theorem dX0_init_33 : decode k_X0_init.2.1 33 = .ok (.putfield 21, 3) := by decide +kernel
theorem dX0_init_36 : decode k_X0_init.2.1 36 = .ok (.aload_n 0, 1) := by decide +kernel
theorem dX0_init_37 : decode k_X0_init.2.1 37 = .ok (.bipush 86, 2) := by decide +kernel
theorem dX0_init_39 : decode k_X0_init.2.1 39 = .ok (.newarray .int, 2) := by decide +kernel
theorem dX0_init_41 : decode k_X0_init.2.1 41 = .ok (.putfield 24, 3) := by decide +kernel
theorem dX0_init_44 : decode k_X0_init.2.1 44 = .ok (.aload_n 0, 1) := by decide +kernel
theorem dX0_init_45 : decode k_X0_init.2.1 45 = .ok (.new 27, 3) := by decide +kernel
theorem dX0_init_48 : decode k_X0_init.2.1 48 = .ok (.dup, 1) := by decide +kernel
theorem dX0_init_49 : decode k_X0_init.2.1 49 = .ok (.bipush 86, 2) := by decide +kernel
theorem dX0_init_51 : decode k_X0_init.2.1 51 = .ok (.invokespecial 29, 3) := by decide +kernel
theorem dX0_init_54 : decode k_X0_init.2.1 54 = .ok (.putfield 32, 3) := by decide +kernel
theorem dX0_init_57 : decode k_X0_init.2.1 57 = .ok (.return_, 1) := by decide +kernel
theorem dX0_make_0 : decode k_X0_make.2.1 0 = .ok (.aload_n 0, 1) := by decide +kernel
theorem dX0_make_1 : decode k_X0_make.2.1 1 = .ok (.aload_n 1, 1) := by decide +kernel
theorem dX0_make_2 : decode k_X0_make.2.1 2 = .ok (.invokevirtual 36, 3) := by decide +kernel
theorem dX0_make_5 : decode k_X0_make.2.1 5 = .ok (.istore_n 2, 1) := by decide +kernel
theorem dX0_make_6 : decode k_X0_make.2.1 6 = .ok (.iconst 1, 1) := by decide +kernel
theorem dX0_make_7 : decode k_X0_make.2.1 7 = .ok (.istore_n 3, 1) := by decide +kernel
theorem dX0_make_8 : decode k_X0_make.2.1 8 = .ok (.iload_n 3, 1) := by decide +kernel
theorem dX0_make_9 : decode k_X0_make.2.1 9 = .ok (.iload_n 2, 1) := by decide +kernel
theorem dX0_make_10 : decode k_X0_make.2.1 10 = .ok (.if_icmp .ge 13, 3) := by decide +kernel
theorem dX0_make_13 : decode k_X0_make.2.1 13 = .ok (.aload_n 0, 1) := by decide +kernel
theorem dX0_make_14 : decode k_X0_make.2.1 14 = .ok (.invokevirtual 40, 3) := by decide +kernel
theorem dX0_make_17 : decode k_X0_make.2.1 17 = .ok (.iinc 3 1, 3) := by decide +kernel
theorem dX0_make_20 : decode k_X0_make.2.1 20 = .ok (.goto (-12), 3) := by decide +kernel
theorem dX0_make_23 : decode k_X0_make.2.1 23 = .ok (.iload_n 2, 1) := by decide +kernel
theorem dX0_make_24 : decode k_X0_make.2.1 24 = .ok (.iconst 1, 1) := by decide +kernel
theorem dX0_make_25 : decode k_X0_make.2.1 25 = .ok (.if_icmp .ne 12, 3) := by decide +kernel
theorem dX0_make_28 : decode k_X0_make.2.1 28 = .ok (.aload_n 0, 1) := by decide +kernel
theorem dX0_make_29 : decode k_X0_make.2.1 29 = .ok (.aload_n 0, 1) := by decide +kernel
theorem dX0_make_30 : decode k_X0_make.2.1 30 = .ok (.iconst (-1), 1) := by decide +kernel
theorem dX0_make_31 : decode k_X0_make.2.1 31 = .ok (.invokevirtual 43, 3) := by decide +kernel
theorem dX0_make_34 : decode k_X0_make.2.1 34 = .ok (.invokevirtual 47, 3) := by decide +kernel
theorem dX0_make_37 : decode k_X0_make.2.1 37 = .ok (.aload_n 0, 1) := by decide +kernel
theorem dX0_make_38 : decode k_X0_make.2.1 38 = .ok (.invokevirtual 50, 3) := by decide +kernel
theorem dX0_make_41 : decode k_X0_make.2.1 41 = .ok (.aload_n 0, 1) := by decide +kernel
theorem dX0_make_42 : decode k_X0_make.2.1 42 = .ok (.invokevirtual 53, 3) := by decide +kernel
theorem dX0_make_45 : decode k_X0_make.2.1 45 = .ok (.return_, 1) := by decide +kernel
theorem dX0_lengthOf_0 : decode k_X0_lengthOf.2.1 0 = .ok (.iload_n 1, 1) := by decide +kernel
theorem dX0_lengthOf_1 : decode k_X0_lengthOf.2.1 1 = .ok (.ifCond .lt 18, 3) := by decide +kernel
theorem dX0_lengthOf_4 : decode k_X0_lengthOf.2.1 4 = .ok (.iload_n 1, 1) := by decide +kernel
theorem dX0_lengthOf_5 : decode k_X0_lengthOf.2.1 5 = .ok (.bipush 86, 2) := by decide +kernel
theorem dX0_lengthOf_7 : decode k_X0_lengthOf.2.1 7 = .ok (.if_icmp .ge 12, 3) := by decide +kernel
theorem dX0_lengthOf_10 : decode k_X0_lengthOf.2.1 10 = .ok (.aload_n 0, 1) := by decide +kernel
theorem dX0_lengthOf_11 : decode k_X0_lengthOf.2.1 11 = .ok (.getfield 21, 3) := by decide +kernel
theorem dX0_lengthOf_14 : decode k_X0_lengthOf.2.1 14 = .ok (.iload_n 1, 1) := by decide +kernel
theorem dX0_lengthOf_15 : decode k_X0_lengthOf.2.1 15 = .ok (.iaload, 1) := by decide +kernel
theorem dX0_lengthOf_16 : decode k_X0_lengthOf.2.1 16 = .ok (.goto 4, 3) := by decide +kernel
theorem dX0_lengthOf_19 : decode k_X0_lengthOf.2.1 19 = .ok (.iconst 0, 1) := by decide +kernel
theorem dX0_lengthOf_20 : decode k_X0_lengthOf.2.1 20 = .ok (.ireturn, 1) := by decide +kernel
theorem dX0_codeOf_0 : decode k_X0_codeOf.2.1 0 = .ok (.aload_n 0, 1) := by decide +kernel
theorem dX0_codeOf_1 : decode k_X0_codeOf.2.1 1 = .ok (.iload_n 1, 1) := by decide +kernel
theorem dX0_codeOf_2 : decode k_X0_codeOf.2.1 2 = .ok (.invokevirtual 56, 3) := by decide +kernel
theorem dX0_codeOf_5 : decode k_X0_codeOf.2.1 5 = .ok (.ifCond .le 12, 3) := by decide +kernel
theorem dX0_codeOf_8 : decode k_X0_codeOf.2.1 8 = .ok (.aload_n 0, 1) := by decide +kernel
theorem dX0_codeOf_9 : decode k_X0_codeOf.2.1 9 = .ok (.getfield 24, 3) := by decide +kernel
theorem dX0_codeOf_12 : decode k_X0_codeOf.2.1 12 = .ok (.iload_n 1, 1) := by decide +kernel
theorem dX0_codeOf_13 : decode k_X0_codeOf.2.1 13 = .ok (.iaload, 1) := by decide +kernel
theorem dX0_codeOf_14 : decode k_X0_codeOf.2.1 14 = .ok (.goto 4, 3) := by decide +kernel
theorem dX0_codeOf_17 : decode k_X0_codeOf.2.1 17 = .ok (.iconst (-1), 1) := by decide +kernel
theorem dX0_codeOf_18 : decode k_X0_codeOf.2.1 18 = .ok (.ireturn, 1) := by decide +kernel
theorem dX0_signAt_0 : decode k_X0_signAt.2.1 0 = .ok (.aload_n 0, 1) := by decide +kernel
theorem dX0_signAt_1 : decode k_X0_signAt.2.1 1 = .ok (.getfield 32, 3) := by decide +kernel
theorem dX0_signAt_4 : decode k_X0_signAt.2.1 4 = .ok (.iload_n 1, 1) := by decide +kernel
theorem dX0_signAt_5 : decode k_X0_signAt.2.1 5 = .ok (.invokevirtual 59, 3) := by decide +kernel
theorem dX0_signAt_8 : decode k_X0_signAt.2.1 8 = .ok (.ireturn, 1) := by decide +kernel
theorem dX0_allBits_0 : decode k_X0_allBits.2.1 0 = .ok (.iconst 0, 1) := by decide +kernel
theorem dX0_allBits_1 : decode k_X0_allBits.2.1 1 = .ok (.istore_n 1, 1) := by decide +kernel
theorem dX0_allBits_2 : decode k_X0_allBits.2.1 2 = .ok (.iconst 0, 1) := by decide +kernel
theorem dX0_allBits_3 : decode k_X0_allBits.2.1 3 = .ok (.istore_n 2, 1) := by decide +kernel
theorem dX0_allBits_4 : decode k_X0_allBits.2.1 4 = .ok (.iload_n 2, 1) := by decide +kernel
theorem dX0_allBits_5 : decode k_X0_allBits.2.1 5 = .ok (.bipush 86, 2) := by decide +kernel
theorem dX0_allBits_7 : decode k_X0_allBits.2.1 7 = .ok (.if_icmp .ge 25, 3) := by decide +kernel
theorem dX0_allBits_10 : decode k_X0_allBits.2.1 10 = .ok (.iload_n 1, 1) := by decide +kernel
theorem dX0_allBits_11 : decode k_X0_allBits.2.1 11 = .ok (.aload_n 0, 1) := by decide +kernel
theorem dX0_allBits_12 : decode k_X0_allBits.2.1 12 = .ok (.getfield 9, 3) := by decide +kernel
theorem dX0_allBits_15 : decode k_X0_allBits.2.1 15 = .ok (.iload_n 2, 1) := by decide +kernel
theorem dX0_allBits_16 : decode k_X0_allBits.2.1 16 = .ok (.iaload, 1) := by decide +kernel
theorem dX0_allBits_17 : decode k_X0_allBits.2.1 17 = .ok (.aload_n 0, 1) := by decide +kernel
theorem dX0_allBits_18 : decode k_X0_allBits.2.1 18 = .ok (.getfield 21, 3) := by decide +kernel
theorem dX0_allBits_21 : decode k_X0_allBits.2.1 21 = .ok (.iload_n 2, 1) := by decide +kernel
theorem dX0_allBits_22 : decode k_X0_allBits.2.1 22 = .ok (.iaload, 1) := by decide +kernel
theorem dX0_allBits_23 : decode k_X0_allBits.2.1 23 = .ok (.imul, 1) := by decide +kernel
theorem dX0_allBits_24 : decode k_X0_allBits.2.1 24 = .ok (.iadd, 1) := by decide +kernel
theorem dX0_allBits_25 : decode k_X0_allBits.2.1 25 = .ok (.istore_n 1, 1) := by decide +kernel
theorem dX0_allBits_26 : decode k_X0_allBits.2.1 26 = .ok (.iinc 2 1, 3) := by decide +kernel
theorem dX0_allBits_29 : decode k_X0_allBits.2.1 29 = .ok (.goto (-25), 3) := by decide +kernel
theorem dX0_allBits_32 : decode k_X0_allBits.2.1 32 = .ok (.iload_n 1, 1) := by decide +kernel
theorem dX0_allBits_33 : decode k_X0_allBits.2.1 33 = .ok (.ireturn, 1) := by decide +kernel
theorem dX0_weigh_0 : decode k_X0_weigh.2.1 0 = .ok (.iconst 0, 1) := by decide +kernel
theorem dX0_weigh_1 : decode k_X0_weigh.2.1 1 = .ok (.istore_n 2, 1) := by decide +kernel
theorem dX0_weigh_2 : decode k_X0_weigh.2.1 2 = .ok (.iconst 0, 1) := by decide +kernel
theorem dX0_weigh_3 : decode k_X0_weigh.2.1 3 = .ok (.istore_n 3, 1) := by decide +kernel
theorem dX0_weigh_4 : decode k_X0_weigh.2.1 4 = .ok (.iload_n 3, 1) := by decide +kernel
theorem dX0_weigh_5 : decode k_X0_weigh.2.1 5 = .ok (.bipush 86, 2) := by decide +kernel
theorem dX0_weigh_7 : decode k_X0_weigh.2.1 7 = .ok (.if_icmp .ge 65, 3) := by decide +kernel
theorem dX0_weigh_10 : decode k_X0_weigh.2.1 10 = .ok (.aload_n 0, 1) := by decide +kernel
theorem dX0_weigh_11 : decode k_X0_weigh.2.1 11 = .ok (.getfield 9, 3) := by decide +kernel
theorem dX0_weigh_14 : decode k_X0_weigh.2.1 14 = .ok (.iload_n 3, 1) := by decide +kernel
theorem dX0_weigh_15 : decode k_X0_weigh.2.1 15 = .ok (.aload_n 1, 1) := by decide +kernel
theorem dX0_weigh_16 : decode k_X0_weigh.2.1 16 = .ok (.iload_n 3, 1) := by decide +kernel
theorem dX0_weigh_17 : decode k_X0_weigh.2.1 17 = .ok (.invokevirtual 62, 3) := by decide +kernel
theorem dX0_weigh_20 : decode k_X0_weigh.2.1 20 = .ok (.iastore, 1) := by decide +kernel
theorem dX0_weigh_21 : decode k_X0_weigh.2.1 21 = .ok (.aload_n 0, 1) := by decide +kernel
theorem dX0_weigh_22 : decode k_X0_weigh.2.1 22 = .ok (.getfield 15, 3) := by decide +kernel
theorem dX0_weigh_25 : decode k_X0_weigh.2.1 25 = .ok (.iload_n 3, 1) := by decide +kernel
theorem dX0_weigh_26 : decode k_X0_weigh.2.1 26 = .ok (.iload_n 3, 1) := by decide +kernel
theorem dX0_weigh_27 : decode k_X0_weigh.2.1 27 = .ok (.iastore, 1) := by decide +kernel
theorem dX0_weigh_28 : decode k_X0_weigh.2.1 28 = .ok (.aload_n 0, 1) := by decide +kernel
theorem dX0_weigh_29 : decode k_X0_weigh.2.1 29 = .ok (.getfield 18, 3) := by decide +kernel
theorem dX0_weigh_32 : decode k_X0_weigh.2.1 32 = .ok (.iload_n 3, 1) := by decide +kernel
theorem dX0_weigh_33 : decode k_X0_weigh.2.1 33 = .ok (.aload_n 0, 1) := by decide +kernel
theorem dX0_weigh_34 : decode k_X0_weigh.2.1 34 = .ok (.getfield 9, 3) := by decide +kernel
theorem dX0_weigh_37 : decode k_X0_weigh.2.1 37 = .ok (.iload_n 3, 1) := by decide +kernel
theorem dX0_weigh_38 : decode k_X0_weigh.2.1 38 = .ok (.iaload, 1) := by decide +kernel
theorem dX0_weigh_39 : decode k_X0_weigh.2.1 39 = .ok (.iastore, 1) := by decide +kernel
theorem dX0_weigh_40 : decode k_X0_weigh.2.1 40 = .ok (.aload_n 0, 1) := by decide +kernel
theorem dX0_weigh_41 : decode k_X0_weigh.2.1 41 = .ok (.getfield 21, 3) := by decide +kernel
theorem dX0_weigh_44 : decode k_X0_weigh.2.1 44 = .ok (.iload_n 3, 1) := by decide +kernel
theorem dX0_weigh_45 : decode k_X0_weigh.2.1 45 = .ok (.iconst 0, 1) := by decide +kernel
theorem dX0_weigh_46 : decode k_X0_weigh.2.1 46 = .ok (.iastore, 1) := by decide +kernel
theorem dX0_weigh_47 : decode k_X0_weigh.2.1 47 = .ok (.aload_n 0, 1) := by decide +kernel
theorem dX0_weigh_48 : decode k_X0_weigh.2.1 48 = .ok (.getfield 24, 3) := by decide +kernel
theorem dX0_weigh_51 : decode k_X0_weigh.2.1 51 = .ok (.iload_n 3, 1) := by decide +kernel
theorem dX0_weigh_52 : decode k_X0_weigh.2.1 52 = .ok (.iconst 0, 1) := by decide +kernel
theorem dX0_weigh_53 : decode k_X0_weigh.2.1 53 = .ok (.iastore, 1) := by decide +kernel
theorem dX0_weigh_54 : decode k_X0_weigh.2.1 54 = .ok (.aload_n 0, 1) := by decide +kernel
theorem dX0_weigh_55 : decode k_X0_weigh.2.1 55 = .ok (.getfield 9, 3) := by decide +kernel
theorem dX0_weigh_58 : decode k_X0_weigh.2.1 58 = .ok (.iload_n 3, 1) := by decide +kernel
theorem dX0_weigh_59 : decode k_X0_weigh.2.1 59 = .ok (.iaload, 1) := by decide +kernel
theorem dX0_weigh_60 : decode k_X0_weigh.2.1 60 = .ok (.ifCond .le 6, 3) := by decide +kernel
theorem dX0_weigh_63 : decode k_X0_weigh.2.1 63 = .ok (.iinc 2 1, 3) := by decide +kernel
theorem dX0_weigh_66 : decode k_X0_weigh.2.1 66 = .ok (.iinc 3 1, 3) := by decide +kernel
theorem dX0_weigh_69 : decode k_X0_weigh.2.1 69 = .ok (.goto (-65), 3) := by decide +kernel
theorem dX0_weigh_72 : decode k_X0_weigh.2.1 72 = .ok (.iload_n 2, 1) := by decide +kernel
theorem dX0_weigh_73 : decode k_X0_weigh.2.1 73 = .ok (.ireturn, 1) := by decide +kernel
theorem dX0_lightestBut_0 : decode k_X0_lightestBut.2.1 0 = .ok (.iconst (-1), 1) := by decide +kernel
theorem dX0_lightestBut_1 : decode k_X0_lightestBut.2.1 1 = .ok (.istore_n 2, 1) := by decide +kernel
theorem dX0_lightestBut_2 : decode k_X0_lightestBut.2.1 2 = .ok (.iconst 0, 1) := by decide +kernel
theorem dX0_lightestBut_3 : decode k_X0_lightestBut.2.1 3 = .ok (.istore_n 3, 1) := by decide +kernel
theorem dX0_lightestBut_4 : decode k_X0_lightestBut.2.1 4 = .ok (.iload_n 3, 1) := by decide +kernel
theorem dX0_lightestBut_5 : decode k_X0_lightestBut.2.1 5 = .ok (.bipush 86, 2) := by decide +kernel
theorem dX0_lightestBut_7 : decode k_X0_lightestBut.2.1 7 = .ok (.if_icmp .ge 45, 3) := by decide +kernel
theorem dX0_lightestBut_10 : decode k_X0_lightestBut.2.1 10 = .ok (.iload_n 3, 1) := by decide +kernel
theorem dX0_lightestBut_11 : decode k_X0_lightestBut.2.1 11 = .ok (.iload_n 1, 1) := by decide +kernel
theorem dX0_lightestBut_12 : decode k_X0_lightestBut.2.1 12 = .ok (.if_icmp .eq 34, 3) := by decide +kernel
theorem dX0_lightestBut_15 : decode k_X0_lightestBut.2.1 15 = .ok (.aload_n 0, 1) := by decide +kernel
theorem dX0_lightestBut_16 : decode k_X0_lightestBut.2.1 16 = .ok (.getfield 18, 3) := by decide +kernel
theorem dX0_lightestBut_19 : decode k_X0_lightestBut.2.1 19 = .ok (.iload_n 3, 1) := by decide +kernel
theorem dX0_lightestBut_20 : decode k_X0_lightestBut.2.1 20 = .ok (.iaload, 1) := by decide +kernel
theorem dX0_lightestBut_21 : decode k_X0_lightestBut.2.1 21 = .ok (.ifCond .le 25, 3) := by decide +kernel
theorem dX0_lightestBut_24 : decode k_X0_lightestBut.2.1 24 = .ok (.iload_n 2, 1) := by decide +kernel
theorem dX0_lightestBut_25 : decode k_X0_lightestBut.2.1 25 = .ok (.iconst (-1), 1) := by decide +kernel
theorem dX0_lightestBut_26 : decode k_X0_lightestBut.2.1 26 = .ok (.if_icmp .eq 18, 3) := by decide +kernel
theorem dX0_lightestBut_29 : decode k_X0_lightestBut.2.1 29 = .ok (.aload_n 0, 1) := by decide +kernel
theorem dX0_lightestBut_30 : decode k_X0_lightestBut.2.1 30 = .ok (.getfield 18, 3) := by decide +kernel
theorem dX0_lightestBut_33 : decode k_X0_lightestBut.2.1 33 = .ok (.iload_n 3, 1) := by decide +kernel
theorem dX0_lightestBut_34 : decode k_X0_lightestBut.2.1 34 = .ok (.iaload, 1) := by decide +kernel
theorem dX0_lightestBut_35 : decode k_X0_lightestBut.2.1 35 = .ok (.aload_n 0, 1) := by decide +kernel
theorem dX0_lightestBut_36 : decode k_X0_lightestBut.2.1 36 = .ok (.getfield 18, 3) := by decide +kernel
theorem dX0_lightestBut_39 : decode k_X0_lightestBut.2.1 39 = .ok (.iload_n 2, 1) := by decide +kernel
theorem dX0_lightestBut_40 : decode k_X0_lightestBut.2.1 40 = .ok (.iaload, 1) := by decide +kernel
theorem dX0_lightestBut_41 : decode k_X0_lightestBut.2.1 41 = .ok (.if_icmp .ge 5, 3) := by decide +kernel
theorem dX0_lightestBut_44 : decode k_X0_lightestBut.2.1 44 = .ok (.iload_n 3, 1) := by decide +kernel
theorem dX0_lightestBut_45 : decode k_X0_lightestBut.2.1 45 = .ok (.istore_n 2, 1) := by decide +kernel
theorem dX0_lightestBut_46 : decode k_X0_lightestBut.2.1 46 = .ok (.iinc 3 1, 3) := by decide +kernel
theorem dX0_lightestBut_49 : decode k_X0_lightestBut.2.1 49 = .ok (.goto (-45), 3) := by decide +kernel
theorem dX0_lightestBut_52 : decode k_X0_lightestBut.2.1 52 = .ok (.iload_n 2, 1) := by decide +kernel
theorem dX0_lightestBut_53 : decode k_X0_lightestBut.2.1 53 = .ok (.ireturn, 1) := by decide +kernel
theorem dX0_putTwoTogether_0 : decode k_X0_putTwoTogether.2.1 0 = .ok (.aload_n 0, 1) := by decide +kernel
theorem dX0_putTwoTogether_1 : decode k_X0_putTwoTogether.2.1 1 = .ok (.iconst (-1), 1) := by decide +kernel
theorem dX0_putTwoTogether_2 : decode k_X0_putTwoTogether.2.1 2 = .ok (.invokevirtual 43, 3) := by decide +kernel
theorem dX0_putTwoTogether_5 : decode k_X0_putTwoTogether.2.1 5 = .ok (.istore_n 1, 1) := by decide +kernel
theorem dX0_putTwoTogether_6 : decode k_X0_putTwoTogether.2.1 6 = .ok (.aload_n 0, 1) := by decide +kernel
theorem dX0_putTwoTogether_7 : decode k_X0_putTwoTogether.2.1 7 = .ok (.iload_n 1, 1) := by decide +kernel
theorem dX0_putTwoTogether_8 : decode k_X0_putTwoTogether.2.1 8 = .ok (.invokevirtual 43, 3) := by decide +kernel
theorem dX0_putTwoTogether_11 : decode k_X0_putTwoTogether.2.1 11 = .ok (.istore_n 2, 1) := by decide +kernel
theorem dX0_putTwoTogether_12 : decode k_X0_putTwoTogether.2.1 12 = .ok (.iload_n 1, 1) := by decide +kernel
theorem dX0_putTwoTogether_13 : decode k_X0_putTwoTogether.2.1 13 = .ok (.iconst (-1), 1) := by decide +kernel
theorem dX0_putTwoTogether_14 : decode k_X0_putTwoTogether.2.1 14 = .ok (.if_icmp .eq 8, 3) := by decide +kernel
theorem dX0_putTwoTogether_17 : decode k_X0_putTwoTogether.2.1 17 = .ok (.iload_n 2, 1) := by decide +kernel
theorem dX0_putTwoTogether_18 : decode k_X0_putTwoTogether.2.1 18 = .ok (.iconst (-1), 1) := by decide +kernel
theorem dX0_putTwoTogether_19 : decode k_X0_putTwoTogether.2.1 19 = .ok (.if_icmp .ne 4, 3) := by decide +kernel
theorem dX0_putTwoTogether_22 : decode k_X0_putTwoTogether.2.1 22 = .ok (.return_, 1) := by decide +kernel
theorem dX0_putTwoTogether_23 : decode k_X0_putTwoTogether.2.1 23 = .ok (.aload_n 0, 1) := by decide +kernel
theorem dX0_putTwoTogether_24 : decode k_X0_putTwoTogether.2.1 24 = .ok (.iload_n 1, 1) := by decide +kernel
theorem dX0_putTwoTogether_25 : decode k_X0_putTwoTogether.2.1 25 = .ok (.invokevirtual 47, 3) := by decide +kernel
theorem dX0_putTwoTogether_28 : decode k_X0_putTwoTogether.2.1 28 = .ok (.aload_n 0, 1) := by decide +kernel
theorem dX0_putTwoTogether_29 : decode k_X0_putTwoTogether.2.1 29 = .ok (.iload_n 2, 1) := by decide +kernel
theorem dX0_putTwoTogether_30 : decode k_X0_putTwoTogether.2.1 30 = .ok (.invokevirtual 47, 3) := by decide +kernel
theorem dX0_putTwoTogether_33 : decode k_X0_putTwoTogether.2.1 33 = .ok (.iload_n 1, 1) := by decide +kernel
theorem dX0_putTwoTogether_34 : decode k_X0_putTwoTogether.2.1 34 = .ok (.iload_n 2, 1) := by decide +kernel
theorem dX0_putTwoTogether_35 : decode k_X0_putTwoTogether.2.1 35 = .ok (.invokestatic 65, 3) := by decide +kernel
theorem dX0_putTwoTogether_38 : decode k_X0_putTwoTogether.2.1 38 = .ok (.istore_n 3, 1) := by decide +kernel
theorem dX0_putTwoTogether_39 : decode k_X0_putTwoTogether.2.1 39 = .ok (.iload_n 1, 1) := by decide +kernel
theorem dX0_putTwoTogether_40 : decode k_X0_putTwoTogether.2.1 40 = .ok (.iload_n 2, 1) := by decide +kernel
theorem dX0_putTwoTogether_41 : decode k_X0_putTwoTogether.2.1 41 = .ok (.invokestatic 71, 3) := by decide +kernel
theorem dX0_putTwoTogether_44 : decode k_X0_putTwoTogether.2.1 44 = .ok (.istore 4, 2) := by decide +kernel
theorem dX0_putTwoTogether_46 : decode k_X0_putTwoTogether.2.1 46 = .ok (.aload_n 0, 1) := by decide +kernel
theorem dX0_putTwoTogether_47 : decode k_X0_putTwoTogether.2.1 47 = .ok (.getfield 18, 3) := by decide +kernel
theorem dX0_putTwoTogether_50 : decode k_X0_putTwoTogether.2.1 50 = .ok (.iload_n 3, 1) := by decide +kernel
theorem dX0_putTwoTogether_51 : decode k_X0_putTwoTogether.2.1 51 = .ok (.dup2, 1) := by decide +kernel
theorem dX0_putTwoTogether_52 : decode k_X0_putTwoTogether.2.1 52 = .ok (.iaload, 1) := by decide +kernel
theorem dX0_putTwoTogether_53 : decode k_X0_putTwoTogether.2.1 53 = .ok (.aload_n 0, 1) := by decide +kernel
theorem dX0_putTwoTogether_54 : decode k_X0_putTwoTogether.2.1 54 = .ok (.getfield 18, 3) := by decide +kernel
theorem dX0_putTwoTogether_57 : decode k_X0_putTwoTogether.2.1 57 = .ok (.iload 4, 2) := by decide +kernel
theorem dX0_putTwoTogether_59 : decode k_X0_putTwoTogether.2.1 59 = .ok (.iaload, 1) := by decide +kernel
theorem dX0_putTwoTogether_60 : decode k_X0_putTwoTogether.2.1 60 = .ok (.iadd, 1) := by decide +kernel
theorem dX0_putTwoTogether_61 : decode k_X0_putTwoTogether.2.1 61 = .ok (.iastore, 1) := by decide +kernel
theorem dX0_putTwoTogether_62 : decode k_X0_putTwoTogether.2.1 62 = .ok (.aload_n 0, 1) := by decide +kernel
theorem dX0_putTwoTogether_63 : decode k_X0_putTwoTogether.2.1 63 = .ok (.getfield 18, 3) := by decide +kernel
theorem dX0_putTwoTogether_66 : decode k_X0_putTwoTogether.2.1 66 = .ok (.iload 4, 2) := by decide +kernel
theorem dX0_putTwoTogether_68 : decode k_X0_putTwoTogether.2.1 68 = .ok (.iconst 0, 1) := by decide +kernel
theorem dX0_putTwoTogether_69 : decode k_X0_putTwoTogether.2.1 69 = .ok (.iastore, 1) := by decide +kernel
theorem dX0_putTwoTogether_70 : decode k_X0_putTwoTogether.2.1 70 = .ok (.iconst 0, 1) := by decide +kernel
theorem dX0_putTwoTogether_71 : decode k_X0_putTwoTogether.2.1 71 = .ok (.istore 5, 2) := by decide +kernel
theorem dX0_putTwoTogether_73 : decode k_X0_putTwoTogether.2.1 73 = .ok (.iload 5, 2) := by decide +kernel
theorem dX0_putTwoTogether_75 : decode k_X0_putTwoTogether.2.1 75 = .ok (.bipush 86, 2) := by decide +kernel
theorem dX0_putTwoTogether_77 : decode k_X0_putTwoTogether.2.1 77 = .ok (.if_icmp .ge 29, 3) := by decide +kernel
theorem dX0_putTwoTogether_80 : decode k_X0_putTwoTogether.2.1 80 = .ok (.aload_n 0, 1) := by decide +kernel
theorem dX0_putTwoTogether_81 : decode k_X0_putTwoTogether.2.1 81 = .ok (.getfield 15, 3) := by decide +kernel
theorem dX0_putTwoTogether_84 : decode k_X0_putTwoTogether.2.1 84 = .ok (.iload 5, 2) := by decide +kernel
theorem dX0_putTwoTogether_86 : decode k_X0_putTwoTogether.2.1 86 = .ok (.iaload, 1) := by decide +kernel
theorem dX0_putTwoTogether_87 : decode k_X0_putTwoTogether.2.1 87 = .ok (.iload 4, 2) := by decide +kernel
theorem dX0_putTwoTogether_89 : decode k_X0_putTwoTogether.2.1 89 = .ok (.if_icmp .ne 11, 3) := by decide +kernel
theorem dX0_putTwoTogether_92 : decode k_X0_putTwoTogether.2.1 92 = .ok (.aload_n 0, 1) := by decide +kernel
theorem dX0_putTwoTogether_93 : decode k_X0_putTwoTogether.2.1 93 = .ok (.getfield 15, 3) := by decide +kernel
theorem dX0_putTwoTogether_96 : decode k_X0_putTwoTogether.2.1 96 = .ok (.iload 5, 2) := by decide +kernel
theorem dX0_putTwoTogether_98 : decode k_X0_putTwoTogether.2.1 98 = .ok (.iload_n 3, 1) := by decide +kernel
theorem dX0_putTwoTogether_99 : decode k_X0_putTwoTogether.2.1 99 = .ok (.iastore, 1) := by decide +kernel
theorem dX0_putTwoTogether_100 : decode k_X0_putTwoTogether.2.1 100 = .ok (.iinc 5 1, 3) := by decide +kernel
theorem dX0_putTwoTogether_103 : decode k_X0_putTwoTogether.2.1 103 = .ok (.goto (-30), 3) := by decide +kernel
theorem dX0_putTwoTogether_106 : decode k_X0_putTwoTogether.2.1 106 = .ok (.return_, 1) := by decide +kernel
theorem dX0_lengthenGroup_0 : decode k_X0_lengthenGroup.2.1 0 = .ok (.iconst 0, 1) := by decide +kernel
theorem dX0_lengthenGroup_1 : decode k_X0_lengthenGroup.2.1 1 = .ok (.istore_n 2, 1) := by decide +kernel
theorem dX0_lengthenGroup_2 : decode k_X0_lengthenGroup.2.1 2 = .ok (.iload_n 2, 1) := by decide +kernel
theorem dX0_lengthenGroup_3 : decode k_X0_lengthenGroup.2.1 3 = .ok (.bipush 86, 2) := by decide +kernel
theorem dX0_lengthenGroup_5 : decode k_X0_lengthenGroup.2.1 5 = .ok (.if_icmp .ge 29, 3) := by decide +kernel
theorem dX0_lengthenGroup_8 : decode k_X0_lengthenGroup.2.1 8 = .ok (.aload_n 0, 1) := by decide +kernel
theorem dX0_lengthenGroup_9 : decode k_X0_lengthenGroup.2.1 9 = .ok (.getfield 15, 3) := by decide +kernel
theorem dX0_lengthenGroup_12 : decode k_X0_lengthenGroup.2.1 12 = .ok (.iload_n 2, 1) := by decide +kernel
theorem dX0_lengthenGroup_13 : decode k_X0_lengthenGroup.2.1 13 = .ok (.iaload, 1) := by decide +kernel
theorem dX0_lengthenGroup_14 : decode k_X0_lengthenGroup.2.1 14 = .ok (.iload_n 1, 1) := by decide +kernel
theorem dX0_lengthenGroup_15 : decode k_X0_lengthenGroup.2.1 15 = .ok (.if_icmp .ne 13, 3) := by decide +kernel
theorem dX0_lengthenGroup_18 : decode k_X0_lengthenGroup.2.1 18 = .ok (.aload_n 0, 1) := by decide +kernel
theorem dX0_lengthenGroup_19 : decode k_X0_lengthenGroup.2.1 19 = .ok (.getfield 21, 3) := by decide +kernel
theorem dX0_lengthenGroup_22 : decode k_X0_lengthenGroup.2.1 22 = .ok (.iload_n 2, 1) := by decide +kernel
theorem dX0_lengthenGroup_23 : decode k_X0_lengthenGroup.2.1 23 = .ok (.dup2, 1) := by decide +kernel
theorem dX0_lengthenGroup_24 : decode k_X0_lengthenGroup.2.1 24 = .ok (.iaload, 1) := by decide +kernel
theorem dX0_lengthenGroup_25 : decode k_X0_lengthenGroup.2.1 25 = .ok (.iconst 1, 1) := by decide +kernel
theorem dX0_lengthenGroup_26 : decode k_X0_lengthenGroup.2.1 26 = .ok (.iadd, 1) := by decide +kernel
theorem dX0_lengthenGroup_27 : decode k_X0_lengthenGroup.2.1 27 = .ok (.iastore, 1) := by decide +kernel
theorem dX0_lengthenGroup_28 : decode k_X0_lengthenGroup.2.1 28 = .ok (.iinc 2 1, 3) := by decide +kernel
theorem dX0_lengthenGroup_31 : decode k_X0_lengthenGroup.2.1 31 = .ok (.goto (-29), 3) := by decide +kernel
theorem dX0_lengthenGroup_34 : decode k_X0_lengthenGroup.2.1 34 = .ok (.return_, 1) := by decide +kernel
theorem dX0_putInOrder_0 : decode k_X0_putInOrder.2.1 0 = .ok (.aload_n 0, 1) := by decide +kernel
theorem dX0_putInOrder_1 : decode k_X0_putInOrder.2.1 1 = .ok (.getfield 32, 3) := by decide +kernel
theorem dX0_putInOrder_4 : decode k_X0_putInOrder.2.1 4 = .ok (.invokevirtual 74, 3) := by decide +kernel
theorem dX0_putInOrder_7 : decode k_X0_putInOrder.2.1 7 = .ok (.iconst 1, 1) := by decide +kernel
theorem dX0_putInOrder_8 : decode k_X0_putInOrder.2.1 8 = .ok (.istore_n 1, 1) := by decide +kernel
theorem dX0_putInOrder_9 : decode k_X0_putInOrder.2.1 9 = .ok (.iload_n 1, 1) := by decide +kernel
theorem dX0_putInOrder_10 : decode k_X0_putInOrder.2.1 10 = .ok (.bipush 86, 2) := by decide +kernel
theorem dX0_putInOrder_12 : decode k_X0_putInOrder.2.1 12 = .ok (.if_icmp .ge 41, 3) := by decide +kernel
theorem dX0_putInOrder_15 : decode k_X0_putInOrder.2.1 15 = .ok (.iconst 0, 1) := by decide +kernel
theorem dX0_putInOrder_16 : decode k_X0_putInOrder.2.1 16 = .ok (.istore_n 2, 1) := by decide +kernel
theorem dX0_putInOrder_17 : decode k_X0_putInOrder.2.1 17 = .ok (.iload_n 2, 1) := by decide +kernel
theorem dX0_putInOrder_18 : decode k_X0_putInOrder.2.1 18 = .ok (.bipush 86, 2) := by decide +kernel
theorem dX0_putInOrder_20 : decode k_X0_putInOrder.2.1 20 = .ok (.if_icmp .ge 27, 3) := by decide +kernel
theorem dX0_putInOrder_23 : decode k_X0_putInOrder.2.1 23 = .ok (.aload_n 0, 1) := by decide +kernel
theorem dX0_putInOrder_24 : decode k_X0_putInOrder.2.1 24 = .ok (.getfield 21, 3) := by decide +kernel
theorem dX0_putInOrder_27 : decode k_X0_putInOrder.2.1 27 = .ok (.iload_n 2, 1) := by decide +kernel
theorem dX0_putInOrder_28 : decode k_X0_putInOrder.2.1 28 = .ok (.iaload, 1) := by decide +kernel
theorem dX0_putInOrder_29 : decode k_X0_putInOrder.2.1 29 = .ok (.iload_n 1, 1) := by decide +kernel
theorem dX0_putInOrder_30 : decode k_X0_putInOrder.2.1 30 = .ok (.if_icmp .ne 11, 3) := by decide +kernel
theorem dX0_putInOrder_33 : decode k_X0_putInOrder.2.1 33 = .ok (.aload_n 0, 1) := by decide +kernel
theorem dX0_putInOrder_34 : decode k_X0_putInOrder.2.1 34 = .ok (.getfield 32, 3) := by decide +kernel
theorem dX0_putInOrder_37 : decode k_X0_putInOrder.2.1 37 = .ok (.iload_n 2, 1) := by decide +kernel
theorem dX0_putInOrder_38 : decode k_X0_putInOrder.2.1 38 = .ok (.invokevirtual 77, 3) := by decide +kernel
theorem dX0_putInOrder_41 : decode k_X0_putInOrder.2.1 41 = .ok (.iinc 2 1, 3) := by decide +kernel
theorem dX0_putInOrder_44 : decode k_X0_putInOrder.2.1 44 = .ok (.goto (-27), 3) := by decide +kernel
theorem dX0_putInOrder_47 : decode k_X0_putInOrder.2.1 47 = .ok (.iinc 1 1, 3) := by decide +kernel
theorem dX0_putInOrder_50 : decode k_X0_putInOrder.2.1 50 = .ok (.goto (-41), 3) := by decide +kernel
theorem dX0_putInOrder_53 : decode k_X0_putInOrder.2.1 53 = .ok (.return_, 1) := by decide +kernel
theorem dX0_number_0 : decode k_X0_number.2.1 0 = .ok (.iconst 0, 1) := by decide +kernel
theorem dX0_number_1 : decode k_X0_number.2.1 1 = .ok (.istore_n 1, 1) := by decide +kernel
theorem dX0_number_2 : decode k_X0_number.2.1 2 = .ok (.aload_n 0, 1) := by decide +kernel
theorem dX0_number_3 : decode k_X0_number.2.1 3 = .ok (.aload_n 0, 1) := by decide +kernel
theorem dX0_number_4 : decode k_X0_number.2.1 4 = .ok (.getfield 32, 3) := by decide +kernel
theorem dX0_number_7 : decode k_X0_number.2.1 7 = .ok (.iconst 0, 1) := by decide +kernel
theorem dX0_number_8 : decode k_X0_number.2.1 8 = .ok (.invokevirtual 59, 3) := by decide +kernel
theorem dX0_number_11 : decode k_X0_number.2.1 11 = .ok (.invokevirtual 56, 3) := by decide +kernel
theorem dX0_number_14 : decode k_X0_number.2.1 14 = .ok (.istore_n 2, 1) := by decide +kernel
theorem dX0_number_15 : decode k_X0_number.2.1 15 = .ok (.iconst 0, 1) := by decide +kernel
theorem dX0_number_16 : decode k_X0_number.2.1 16 = .ok (.istore_n 3, 1) := by decide +kernel
theorem dX0_number_17 : decode k_X0_number.2.1 17 = .ok (.iload_n 3, 1) := by decide +kernel
theorem dX0_number_18 : decode k_X0_number.2.1 18 = .ok (.aload_n 0, 1) := by decide +kernel
theorem dX0_number_19 : decode k_X0_number.2.1 19 = .ok (.getfield 32, 3) := by decide +kernel
theorem dX0_number_22 : decode k_X0_number.2.1 22 = .ok (.invokevirtual 80, 3) := by decide +kernel
theorem dX0_number_25 : decode k_X0_number.2.1 25 = .ok (.if_icmp .ge 60, 3) := by decide +kernel
theorem dX0_number_28 : decode k_X0_number.2.1 28 = .ok (.aload_n 0, 1) := by decide +kernel
theorem dX0_number_29 : decode k_X0_number.2.1 29 = .ok (.getfield 32, 3) := by decide +kernel
theorem dX0_number_32 : decode k_X0_number.2.1 32 = .ok (.iload_n 3, 1) := by decide +kernel
theorem dX0_number_33 : decode k_X0_number.2.1 33 = .ok (.invokevirtual 59, 3) := by decide +kernel
theorem dX0_number_36 : decode k_X0_number.2.1 36 = .ok (.istore 4, 2) := by decide +kernel
theorem dX0_number_38 : decode k_X0_number.2.1 38 = .ok (.iload_n 1, 1) := by decide +kernel
theorem dX0_number_39 : decode k_X0_number.2.1 39 = .ok (.aload_n 0, 1) := by decide +kernel
theorem dX0_number_40 : decode k_X0_number.2.1 40 = .ok (.iload 4, 2) := by decide +kernel
theorem dX0_number_42 : decode k_X0_number.2.1 42 = .ok (.invokevirtual 56, 3) := by decide +kernel
theorem dX0_number_45 : decode k_X0_number.2.1 45 = .ok (.iload_n 2, 1) := by decide +kernel
theorem dX0_number_46 : decode k_X0_number.2.1 46 = .ok (.isub, 1) := by decide +kernel
theorem dX0_number_47 : decode k_X0_number.2.1 47 = .ok (.ishl, 1) := by decide +kernel
theorem dX0_number_48 : decode k_X0_number.2.1 48 = .ok (.istore_n 1, 1) := by decide +kernel
theorem dX0_number_49 : decode k_X0_number.2.1 49 = .ok (.aload_n 0, 1) := by decide +kernel
theorem dX0_number_50 : decode k_X0_number.2.1 50 = .ok (.iload 4, 2) := by decide +kernel
theorem dX0_number_52 : decode k_X0_number.2.1 52 = .ok (.invokevirtual 56, 3) := by decide +kernel
theorem dX0_number_55 : decode k_X0_number.2.1 55 = .ok (.istore_n 2, 1) := by decide +kernel
theorem dX0_number_56 : decode k_X0_number.2.1 56 = .ok (.iload 4, 2) := by decide +kernel
theorem dX0_number_58 : decode k_X0_number.2.1 58 = .ok (.ifCond .lt 18, 3) := by decide +kernel
theorem dX0_number_61 : decode k_X0_number.2.1 61 = .ok (.iload 4, 2) := by decide +kernel
theorem dX0_number_63 : decode k_X0_number.2.1 63 = .ok (.bipush 86, 2) := by decide +kernel
theorem dX0_number_65 : decode k_X0_number.2.1 65 = .ok (.if_icmp .ge 11, 3) := by decide +kernel
theorem dX0_number_68 : decode k_X0_number.2.1 68 = .ok (.aload_n 0, 1) := by decide +kernel
theorem dX0_number_69 : decode k_X0_number.2.1 69 = .ok (.getfield 24, 3) := by decide +kernel
theorem dX0_number_72 : decode k_X0_number.2.1 72 = .ok (.iload 4, 2) := by decide +kernel
theorem dX0_number_74 : decode k_X0_number.2.1 74 = .ok (.iload_n 1, 1) := by decide +kernel
theorem dX0_number_75 : decode k_X0_number.2.1 75 = .ok (.iastore, 1) := by decide +kernel
theorem dX0_number_76 : decode k_X0_number.2.1 76 = .ok (.iinc 1 1, 3) := by decide +kernel
theorem dX0_number_79 : decode k_X0_number.2.1 79 = .ok (.iinc 3 1, 3) := by decide +kernel
theorem dX0_number_82 : decode k_X0_number.2.1 82 = .ok (.goto (-65), 3) := by decide +kernel
theorem dX0_number_85 : decode k_X0_number.2.1 85 = .ok (.return_, 1) := by decide +kernel
theorem dX1_init_0 : decode k_X1_init.2.1 0 = .ok (.aload_n 0, 1) := by decide +kernel
theorem dX1_init_1 : decode k_X1_init.2.1 1 = .ok (.invokespecial 3, 3) := by decide +kernel
theorem dX1_init_4 : decode k_X1_init.2.1 4 = .ok (.aload_n 0, 1) := by decide +kernel
theorem dX1_init_5 : decode k_X1_init.2.1 5 = .ok (.new 9, 3) := by decide +kernel
theorem dX1_init_8 : decode k_X1_init.2.1 8 = .ok (.dup, 1) := by decide +kernel
theorem dX1_init_9 : decode k_X1_init.2.1 9 = .ok (.invokespecial 11, 3) := by decide +kernel
theorem dX1_init_12 : decode k_X1_init.2.1 12 = .ok (.putfield 12, 3) := by decide +kernel
theorem dX1_init_15 : decode k_X1_init.2.1 15 = .ok (.aload_n 0, 1) := by decide +kernel
theorem dX1_init_16 : decode k_X1_init.2.1 16 = .ok (.bipush 86, 2) := by decide +kernel
theorem dX1_init_18 : decode k_X1_init.2.1 18 = .ok (.newarray .int, 2) := by decide +kernel
theorem dX1_init_20 : decode k_X1_init.2.1 20 = .ok (.putfield 18, 3) := by decide +kernel
theorem dX1_init_23 : decode k_X1_init.2.1 23 = .ok (.aload_n 0, 1) := by decide +kernel
theorem dX1_init_24 : decode k_X1_init.2.1 24 = .ok (.new 22, 3) := by decide +kernel
theorem dX1_init_27 : decode k_X1_init.2.1 27 = .ok (.dup, 1) := by decide +kernel
theorem dX1_init_28 : decode k_X1_init.2.1 28 = .ok (.iconst 0, 1) := by decide +kernel
theorem dX1_init_29 : decode k_X1_init.2.1 29 = .ok (.invokespecial 24, 3) := by decide +kernel
theorem dX1_init_32 : decode k_X1_init.2.1 32 = .ok (.putfield 27, 3) := by decide +kernel
theorem dX1_init_35 : decode k_X1_init.2.1 35 = .ok (.aload_n 0, 1) := by decide +kernel
theorem dX1_init_36 : decode k_X1_init.2.1 36 = .ok (.iconst 0, 1) := by decide +kernel
theorem dX1_init_37 : decode k_X1_init.2.1 37 = .ok (.putfield 31, 3) := by decide +kernel
theorem dX1_init_40 : decode k_X1_init.2.1 40 = .ok (.aload_n 0, 1) := by decide +kernel
theorem dX1_init_41 : decode k_X1_init.2.1 41 = .ok (.iconst 0, 1) := by decide +kernel
theorem dX1_init_42 : decode k_X1_init.2.1 42 = .ok (.putfield 35, 3) := by decide +kernel
theorem dX1_init_45 : decode k_X1_init.2.1 45 = .ok (.aload_n 0, 1) := by decide +kernel
theorem dX1_init_46 : decode k_X1_init.2.1 46 = .ok (.iconst 0, 1) := by decide +kernel
theorem dX1_init_47 : decode k_X1_init.2.1 47 = .ok (.putfield 38, 3) := by decide +kernel
theorem dX1_init_50 : decode k_X1_init.2.1 50 = .ok (.aload_n 0, 1) := by decide +kernel
theorem dX1_init_51 : decode k_X1_init.2.1 51 = .ok (.iconst (-1), 1) := by decide +kernel
theorem dX1_init_52 : decode k_X1_init.2.1 52 = .ok (.putfield 41, 3) := by decide +kernel
theorem dX1_init_55 : decode k_X1_init.2.1 55 = .ok (.return_, 1) := by decide +kernel
theorem dX1_readFrom_0 : decode k_X1_readFrom.2.1 0 = .ok (.aload_n 0, 1) := by decide +kernel
theorem dX1_readFrom_1 : decode k_X1_readFrom.2.1 1 = .ok (.aload_n 1, 1) := by decide +kernel
theorem dX1_readFrom_2 : decode k_X1_readFrom.2.1 2 = .ok (.iload_n 2, 1) := by decide +kernel
theorem dX1_readFrom_3 : decode k_X1_readFrom.2.1 3 = .ok (.invokevirtual 44, 3) := by decide +kernel
theorem dX1_readFrom_6 : decode k_X1_readFrom.2.1 6 = .ok (.aload_n 0, 1) := by decide +kernel
theorem dX1_readFrom_7 : decode k_X1_readFrom.2.1 7 = .ok (.invokevirtual 48, 3) := by decide +kernel
theorem dX1_readFrom_10 : decode k_X1_readFrom.2.1 10 = .ok (.istore_n 3, 1) := by decide +kernel
theorem dX1_readFrom_11 : decode k_X1_readFrom.2.1 11 = .ok (.aload_n 0, 1) := by decide +kernel
theorem dX1_readFrom_12 : decode k_X1_readFrom.2.1 12 = .ok (.invokevirtual 52, 3) := by decide +kernel
theorem dX1_readFrom_15 : decode k_X1_readFrom.2.1 15 = .ok (.ifCond .eq 14, 3) := by decide +kernel
theorem dX1_readFrom_18 : decode k_X1_readFrom.2.1 18 = .ok (.iload_n 3, 1) := by decide +kernel
theorem dX1_readFrom_19 : decode k_X1_readFrom.2.1 19 = .ok (.bipush 60, 2) := by decide +kernel
theorem dX1_readFrom_21 : decode k_X1_readFrom.2.1 21 = .ok (.if_icmp .le 8, 3) := by decide +kernel
theorem dX1_readFrom_24 : decode k_X1_readFrom.2.1 24 = .ok (.aload_n 0, 1) := by decide +kernel
theorem dX1_readFrom_25 : decode k_X1_readFrom.2.1 25 = .ok (.iconst 2, 1) := by decide +kernel
theorem dX1_readFrom_26 : decode k_X1_readFrom.2.1 26 = .ok (.invokevirtual 56, 3) := by decide +kernel
theorem dX1_readFrom_29 : decode k_X1_readFrom.2.1 29 = .ok (.iconst 0, 1) := by decide +kernel
theorem dX1_readFrom_30 : decode k_X1_readFrom.2.1 30 = .ok (.istore 4, 2) := by decide +kernel
theorem dX1_readFrom_32 : decode k_X1_readFrom.2.1 32 = .ok (.iload 4, 2) := by decide +kernel
theorem dX1_readFrom_34 : decode k_X1_readFrom.2.1 34 = .ok (.iload_n 3, 1) := by decide +kernel
theorem dX1_readFrom_35 : decode k_X1_readFrom.2.1 35 = .ok (.if_icmp .ge 20, 3) := by decide +kernel
theorem dX1_readFrom_38 : decode k_X1_readFrom.2.1 38 = .ok (.aload_n 0, 1) := by decide +kernel
theorem dX1_readFrom_39 : decode k_X1_readFrom.2.1 39 = .ok (.invokevirtual 52, 3) := by decide +kernel
theorem dX1_readFrom_42 : decode k_X1_readFrom.2.1 42 = .ok (.ifCond .eq 13, 3) := by decide +kernel
theorem dX1_readFrom_45 : decode k_X1_readFrom.2.1 45 = .ok (.aload_n 0, 1) := by decide +kernel
theorem dX1_readFrom_46 : decode k_X1_readFrom.2.1 46 = .ok (.invokevirtual 59, 3) := by decide +kernel
theorem dX1_readFrom_49 : decode k_X1_readFrom.2.1 49 = .ok (.iinc 4 1, 3) := by decide +kernel
theorem dX1_readFrom_52 : decode k_X1_readFrom.2.1 52 = .ok (.goto (-20), 3) := by decide +kernel
theorem dX1_readFrom_55 : decode k_X1_readFrom.2.1 55 = .ok (.aload_n 0, 1) := by decide +kernel
theorem dX1_readFrom_56 : decode k_X1_readFrom.2.1 56 = .ok (.invokevirtual 52, 3) := by decide +kernel
theorem dX1_readFrom_59 : decode k_X1_readFrom.2.1 59 = .ok (.ifCond .eq 7, 3) := by decide +kernel
theorem dX1_readFrom_62 : decode k_X1_readFrom.2.1 62 = .ok (.aload_n 0, 1) := by decide +kernel
theorem dX1_readFrom_63 : decode k_X1_readFrom.2.1 63 = .ok (.invokevirtual 62, 3) := by decide +kernel
theorem dX1_readFrom_66 : decode k_X1_readFrom.2.1 66 = .ok (.aload_n 0, 1) := by decide +kernel
theorem dX1_readFrom_67 : decode k_X1_readFrom.2.1 67 = .ok (.invokevirtual 52, 3) := by decide +kernel
theorem dX1_readFrom_70 : decode k_X1_readFrom.2.1 70 = .ok (.ifCond .eq 29, 3) := by decide +kernel
theorem dX1_readFrom_73 : decode k_X1_readFrom.2.1 73 = .ok (.aload_n 0, 1) := by decide +kernel
theorem dX1_readFrom_74 : decode k_X1_readFrom.2.1 74 = .ok (.getfield 35, 3) := by decide +kernel
theorem dX1_readFrom_77 : decode k_X1_readFrom.2.1 77 = .ok (.aload_n 0, 1) := by decide +kernel
theorem dX1_readFrom_78 : decode k_X1_readFrom.2.1 78 = .ok (.getfield 31, 3) := by decide +kernel
theorem dX1_readFrom_81 : decode k_X1_readFrom.2.1 81 = .ok (.if_icmp .ge 18, 3) := by decide +kernel
theorem dX1_readFrom_84 : decode k_X1_readFrom.2.1 84 = .ok (.aload_n 0, 1) := by decide +kernel
theorem dX1_readFrom_85 : decode k_X1_readFrom.2.1 85 = .ok (.dup, 1) := by decide +kernel
theorem dX1_readFrom_86 : decode k_X1_readFrom.2.1 86 = .ok (.getfield 35, 3) := by decide +kernel
theorem dX1_readFrom_89 : decode k_X1_readFrom.2.1 89 = .ok (.iconst 1, 1) := by decide +kernel
theorem dX1_readFrom_90 : decode k_X1_readFrom.2.1 90 = .ok (.iadd, 1) := by decide +kernel
theorem dX1_readFrom_91 : decode k_X1_readFrom.2.1 91 = .ok (.putfield 35, 3) := by decide +kernel
theorem dX1_readFrom_94 : decode k_X1_readFrom.2.1 94 = .ok (.aload_n 0, 1) := by decide +kernel
theorem dX1_readFrom_95 : decode k_X1_readFrom.2.1 95 = .ok (.iconst 1, 1) := by decide +kernel
theorem dX1_readFrom_96 : decode k_X1_readFrom.2.1 96 = .ok (.invokevirtual 56, 3) := by decide +kernel
theorem dX1_readFrom_99 : decode k_X1_readFrom.2.1 99 = .ok (.return_, 1) := by decide +kernel
theorem dX1_faultKind_0 : decode k_X1_faultKind.2.1 0 = .ok (.aload_n 0, 1) := by decide +kernel
theorem dX1_faultKind_1 : decode k_X1_faultKind.2.1 1 = .ok (.getfield 38, 3) := by decide +kernel
theorem dX1_faultKind_4 : decode k_X1_faultKind.2.1 4 = .ok (.ireturn, 1) := by decide +kernel
theorem dX1_faultPlace_0 : decode k_X1_faultPlace.2.1 0 = .ok (.aload_n 0, 1) := by decide +kernel
theorem dX1_faultPlace_1 : decode k_X1_faultPlace.2.1 1 = .ok (.getfield 41, 3) := by decide +kernel
theorem dX1_faultPlace_4 : decode k_X1_faultPlace.2.1 4 = .ok (.ireturn, 1) := by decide +kernel
theorem dX1_packing_0 : decode k_X1_packing.2.1 0 = .ok (.aload_n 0, 1) := by decide +kernel
theorem dX1_packing_1 : decode k_X1_packing.2.1 1 = .ok (.getfield 12, 3) := by decide +kernel
theorem dX1_packing_4 : decode k_X1_packing.2.1 4 = .ok (.areturn, 1) := by decide +kernel
theorem dX1_start_0 : decode k_X1_start.2.1 0 = .ok (.aload_n 0, 1) := by decide +kernel
theorem dX1_start_1 : decode k_X1_start.2.1 1 = .ok (.getfield 12, 3) := by decide +kernel
theorem dX1_start_4 : decode k_X1_start.2.1 4 = .ok (.invokevirtual 65, 3) := by decide +kernel
theorem dX1_start_7 : decode k_X1_start.2.1 7 = .ok (.iconst 0, 1) := by decide +kernel
theorem dX1_start_8 : decode k_X1_start.2.1 8 = .ok (.istore_n 3, 1) := by decide +kernel
theorem dX1_start_9 : decode k_X1_start.2.1 9 = .ok (.iload_n 3, 1) := by decide +kernel
theorem dX1_start_10 : decode k_X1_start.2.1 10 = .ok (.bipush 86, 2) := by decide +kernel
theorem dX1_start_12 : decode k_X1_start.2.1 12 = .ok (.if_icmp .ge 27, 3) := by decide +kernel
theorem dX1_start_15 : decode k_X1_start.2.1 15 = .ok (.aload_n 0, 1) := by decide +kernel
theorem dX1_start_16 : decode k_X1_start.2.1 16 = .ok (.getfield 18, 3) := by decide +kernel
theorem dX1_start_19 : decode k_X1_start.2.1 19 = .ok (.iload_n 3, 1) := by decide +kernel
theorem dX1_start_20 : decode k_X1_start.2.1 20 = .ok (.iload_n 3, 1) := by decide +kernel
theorem dX1_start_21 : decode k_X1_start.2.1 21 = .ok (.invokestatic 68, 3) := by decide +kernel
theorem dX1_start_24 : decode k_X1_start.2.1 24 = .ok (.ifCond .eq 7, 3) := by decide +kernel
theorem dX1_start_27 : decode k_X1_start.2.1 27 = .ok (.iconst 1, 1) := by decide +kernel
theorem dX1_start_28 : decode k_X1_start.2.1 28 = .ok (.goto 4, 3) := by decide +kernel
theorem dX1_start_31 : decode k_X1_start.2.1 31 = .ok (.iconst 0, 1) := by decide +kernel
theorem dX1_start_32 : decode k_X1_start.2.1 32 = .ok (.iastore, 1) := by decide +kernel
theorem dX1_start_33 : decode k_X1_start.2.1 33 = .ok (.iinc 3 1, 3) := by decide +kernel
theorem dX1_start_36 : decode k_X1_start.2.1 36 = .ok (.goto (-27), 3) := by decide +kernel
theorem dX1_start_39 : decode k_X1_start.2.1 39 = .ok (.aload_n 0, 1) := by decide +kernel
theorem dX1_start_40 : decode k_X1_start.2.1 40 = .ok (.aload_n 1, 1) := by decide +kernel
theorem dX1_start_41 : decode k_X1_start.2.1 41 = .ok (.putfield 27, 3) := by decide +kernel
theorem dX1_start_44 : decode k_X1_start.2.1 44 = .ok (.aload_n 0, 1) := by decide +kernel
theorem dX1_start_45 : decode k_X1_start.2.1 45 = .ok (.iload_n 2, 1) := by decide +kernel
theorem dX1_start_46 : decode k_X1_start.2.1 46 = .ok (.putfield 31, 3) := by decide +kernel
theorem dX1_start_49 : decode k_X1_start.2.1 49 = .ok (.aload_n 0, 1) := by decide +kernel
theorem dX1_start_50 : decode k_X1_start.2.1 50 = .ok (.iconst 0, 1) := by decide +kernel
theorem dX1_start_51 : decode k_X1_start.2.1 51 = .ok (.putfield 35, 3) := by decide +kernel
theorem dX1_start_54 : decode k_X1_start.2.1 54 = .ok (.aload_n 0, 1) := by decide +kernel
theorem dX1_start_55 : decode k_X1_start.2.1 55 = .ok (.iconst 0, 1) := by decide +kernel
theorem dX1_start_56 : decode k_X1_start.2.1 56 = .ok (.putfield 38, 3) := by decide +kernel
theorem dX1_start_59 : decode k_X1_start.2.1 59 = .ok (.aload_n 0, 1) := by decide +kernel
theorem dX1_start_60 : decode k_X1_start.2.1 60 = .ok (.iconst (-1), 1) := by decide +kernel
theorem dX1_start_61 : decode k_X1_start.2.1 61 = .ok (.putfield 41, 3) := by decide +kernel
theorem dX1_start_64 : decode k_X1_start.2.1 64 = .ok (.return_, 1) := by decide +kernel
theorem dX1_isWhole_0 : decode k_X1_isWhole.2.1 0 = .ok (.aload_n 0, 1) := by decide +kernel
theorem dX1_isWhole_1 : decode k_X1_isWhole.2.1 1 = .ok (.getfield 38, 3) := by decide +kernel
theorem dX1_isWhole_4 : decode k_X1_isWhole.2.1 4 = .ok (.ifCond .ne 7, 3) := by decide +kernel
theorem dX1_isWhole_7 : decode k_X1_isWhole.2.1 7 = .ok (.iconst 1, 1) := by decide +kernel
theorem dX1_isWhole_8 : decode k_X1_isWhole.2.1 8 = .ok (.goto 4, 3) := by decide +kernel
theorem dX1_isWhole_11 : decode k_X1_isWhole.2.1 11 = .ok (.iconst 0, 1) := by decide +kernel
theorem dX1_isWhole_12 : decode k_X1_isWhole.2.1 12 = .ok (.ireturn, 1) := by decide +kernel
theorem dX1_nextByte_0 : decode k_X1_nextByte.2.1 0 = .ok (.aload_n 0, 1) := by decide +kernel
theorem dX1_nextByte_1 : decode k_X1_nextByte.2.1 1 = .ok (.getfield 35, 3) := by decide +kernel
theorem dX1_nextByte_4 : decode k_X1_nextByte.2.1 4 = .ok (.aload_n 0, 1) := by decide +kernel
theorem dX1_nextByte_5 : decode k_X1_nextByte.2.1 5 = .ok (.getfield 31, 3) := by decide +kernel
theorem dX1_nextByte_8 : decode k_X1_nextByte.2.1 8 = .ok (.if_icmp .lt 20, 3) := by decide +kernel
theorem dX1_nextByte_11 : decode k_X1_nextByte.2.1 11 = .ok (.aload_n 0, 1) := by decide +kernel
theorem dX1_nextByte_12 : decode k_X1_nextByte.2.1 12 = .ok (.dup, 1) := by decide +kernel
theorem dX1_nextByte_13 : decode k_X1_nextByte.2.1 13 = .ok (.getfield 35, 3) := by decide +kernel
theorem dX1_nextByte_16 : decode k_X1_nextByte.2.1 16 = .ok (.iconst 1, 1) := by decide +kernel
theorem dX1_nextByte_17 : decode k_X1_nextByte.2.1 17 = .ok (.iadd, 1) := by decide +kernel
theorem dX1_nextByte_18 : decode k_X1_nextByte.2.1 18 = .ok (.putfield 35, 3) := by decide +kernel
theorem dX1_nextByte_21 : decode k_X1_nextByte.2.1 21 = .ok (.aload_n 0, 1) := by decide +kernel
theorem dX1_nextByte_22 : decode k_X1_nextByte.2.1 22 = .ok (.iconst 1, 1) := by decide +kernel
theorem dX1_nextByte_23 : decode k_X1_nextByte.2.1 23 = .ok (.invokevirtual 56, 3) := by decide +kernel
theorem dX1_nextByte_26 : decode k_X1_nextByte.2.1 26 = .ok (.iconst (-1), 1) := by decide +kernel
theorem dX1_nextByte_27 : decode k_X1_nextByte.2.1 27 = .ok (.ireturn, 1) := by decide +kernel
theorem dX1_nextByte_28 : decode k_X1_nextByte.2.1 28 = .ok (.aload_n 0, 1) := by decide +kernel
theorem dX1_nextByte_29 : decode k_X1_nextByte.2.1 29 = .ok (.getfield 27, 3) := by decide +kernel
theorem dX1_nextByte_32 : decode k_X1_nextByte.2.1 32 = .ok (.aload_n 0, 1) := by decide +kernel
theorem dX1_nextByte_33 : decode k_X1_nextByte.2.1 33 = .ok (.getfield 35, 3) := by decide +kernel
theorem dX1_nextByte_36 : decode k_X1_nextByte.2.1 36 = .ok (.invokevirtual 72, 3) := by decide +kernel
theorem dX1_nextByte_39 : decode k_X1_nextByte.2.1 39 = .ok (.istore_n 1, 1) := by decide +kernel
theorem dX1_nextByte_40 : decode k_X1_nextByte.2.1 40 = .ok (.aload_n 0, 1) := by decide +kernel
theorem dX1_nextByte_41 : decode k_X1_nextByte.2.1 41 = .ok (.dup, 1) := by decide +kernel
theorem dX1_nextByte_42 : decode k_X1_nextByte.2.1 42 = .ok (.getfield 35, 3) := by decide +kernel
theorem dX1_nextByte_45 : decode k_X1_nextByte.2.1 45 = .ok (.iconst 1, 1) := by decide +kernel
theorem dX1_nextByte_46 : decode k_X1_nextByte.2.1 46 = .ok (.iadd, 1) := by decide +kernel
theorem dX1_nextByte_47 : decode k_X1_nextByte.2.1 47 = .ok (.putfield 35, 3) := by decide +kernel
theorem dX1_nextByte_50 : decode k_X1_nextByte.2.1 50 = .ok (.iload_n 1, 1) := by decide +kernel
theorem dX1_nextByte_51 : decode k_X1_nextByte.2.1 51 = .ok (.ireturn, 1) := by decide +kernel
theorem dX1_blame_0 : decode k_X1_blame.2.1 0 = .ok (.aload_n 0, 1) := by decide +kernel
theorem dX1_blame_1 : decode k_X1_blame.2.1 1 = .ok (.iload_n 1, 1) := by decide +kernel
theorem dX1_blame_2 : decode k_X1_blame.2.1 2 = .ok (.putfield 38, 3) := by decide +kernel
theorem dX1_blame_5 : decode k_X1_blame.2.1 5 = .ok (.aload_n 0, 1) := by decide +kernel
theorem dX1_blame_6 : decode k_X1_blame.2.1 6 = .ok (.aload_n 0, 1) := by decide +kernel
theorem dX1_blame_7 : decode k_X1_blame.2.1 7 = .ok (.getfield 35, 3) := by decide +kernel
theorem dX1_blame_10 : decode k_X1_blame.2.1 10 = .ok (.iconst 1, 1) := by decide +kernel
theorem dX1_blame_11 : decode k_X1_blame.2.1 11 = .ok (.isub, 1) := by decide +kernel
theorem dX1_blame_12 : decode k_X1_blame.2.1 12 = .ok (.putfield 41, 3) := by decide +kernel
theorem dX1_blame_15 : decode k_X1_blame.2.1 15 = .ok (.return_, 1) := by decide +kernel
theorem dX1_lettersOf_0 : decode k_X1_lettersOf.2.1 0 = .ok (.iload_n 1, 1) := by decide +kernel
theorem dX1_lettersOf_1 : decode k_X1_lettersOf.2.1 1 = .ok (.ifCond .lt 18, 3) := by decide +kernel
theorem dX1_lettersOf_4 : decode k_X1_lettersOf.2.1 4 = .ok (.iload_n 1, 1) := by decide +kernel
theorem dX1_lettersOf_5 : decode k_X1_lettersOf.2.1 5 = .ok (.bipush 86, 2) := by decide +kernel
theorem dX1_lettersOf_7 : decode k_X1_lettersOf.2.1 7 = .ok (.if_icmp .ge 12, 3) := by decide +kernel
theorem dX1_lettersOf_10 : decode k_X1_lettersOf.2.1 10 = .ok (.aload_n 0, 1) := by decide +kernel
theorem dX1_lettersOf_11 : decode k_X1_lettersOf.2.1 11 = .ok (.getfield 18, 3) := by decide +kernel
theorem dX1_lettersOf_14 : decode k_X1_lettersOf.2.1 14 = .ok (.iload_n 1, 1) := by decide +kernel
theorem dX1_lettersOf_15 : decode k_X1_lettersOf.2.1 15 = .ok (.iaload, 1) := by decide +kernel
theorem dX1_lettersOf_16 : decode k_X1_lettersOf.2.1 16 = .ok (.goto 4, 3) := by decide +kernel
theorem dX1_lettersOf_19 : decode k_X1_lettersOf.2.1 19 = .ok (.iconst 0, 1) := by decide +kernel
theorem dX1_lettersOf_20 : decode k_X1_lettersOf.2.1 20 = .ok (.ireturn, 1) := by decide +kernel
theorem dX1_readRule_0 : decode k_X1_readRule.2.1 0 = .ok (.aload_n 0, 1) := by decide +kernel
theorem dX1_readRule_1 : decode k_X1_readRule.2.1 1 = .ok (.invokevirtual 48, 3) := by decide +kernel
theorem dX1_readRule_4 : decode k_X1_readRule.2.1 4 = .ok (.istore_n 1, 1) := by decide +kernel
theorem dX1_readRule_5 : decode k_X1_readRule.2.1 5 = .ok (.aload_n 0, 1) := by decide +kernel
theorem dX1_readRule_6 : decode k_X1_readRule.2.1 6 = .ok (.invokevirtual 52, 3) := by decide +kernel
theorem dX1_readRule_9 : decode k_X1_readRule.2.1 9 = .ok (.ifCond .ne 4, 3) := by decide +kernel
theorem dX1_readRule_12 : decode k_X1_readRule.2.1 12 = .ok (.return_, 1) := by decide +kernel
theorem dX1_readRule_13 : decode k_X1_readRule.2.1 13 = .ok (.iload_n 1, 1) := by decide +kernel
theorem dX1_readRule_14 : decode k_X1_readRule.2.1 14 = .ok (.bipush 26, 2) := by decide +kernel
theorem dX1_readRule_16 : decode k_X1_readRule.2.1 16 = .ok (.if_icmp .lt 9, 3) := by decide +kernel
theorem dX1_readRule_19 : decode k_X1_readRule.2.1 19 = .ok (.iload_n 1, 1) := by decide +kernel
theorem dX1_readRule_20 : decode k_X1_readRule.2.1 20 = .ok (.bipush 86, 2) := by decide +kernel
theorem dX1_readRule_22 : decode k_X1_readRule.2.1 22 = .ok (.if_icmp .lt 9, 3) := by decide +kernel
theorem dX1_readRule_25 : decode k_X1_readRule.2.1 25 = .ok (.aload_n 0, 1) := by decide +kernel
theorem dX1_readRule_26 : decode k_X1_readRule.2.1 26 = .ok (.iconst 2, 1) := by decide +kernel
theorem dX1_readRule_27 : decode k_X1_readRule.2.1 27 = .ok (.invokevirtual 56, 3) := by decide +kernel
theorem dX1_readRule_30 : decode k_X1_readRule.2.1 30 = .ok (.return_, 1) := by decide +kernel
theorem dX1_readRule_31 : decode k_X1_readRule.2.1 31 = .ok (.aload_n 0, 1) := by decide +kernel
theorem dX1_readRule_32 : decode k_X1_readRule.2.1 32 = .ok (.iload_n 1, 1) := by decide +kernel
theorem dX1_readRule_33 : decode k_X1_readRule.2.1 33 = .ok (.invokevirtual 76, 3) := by decide +kernel
theorem dX1_readRule_36 : decode k_X1_readRule.2.1 36 = .ok (.ifCond .le 9, 3) := by decide +kernel
theorem dX1_readRule_39 : decode k_X1_readRule.2.1 39 = .ok (.aload_n 0, 1) := by decide +kernel
theorem dX1_readRule_40 : decode k_X1_readRule.2.1 40 = .ok (.iconst 3, 1) := by decide +kernel
theorem dX1_readRule_41 : decode k_X1_readRule.2.1 41 = .ok (.invokevirtual 56, 3) := by decide +kernel
theorem dX1_readRule_44 : decode k_X1_readRule.2.1 44 = .ok (.return_, 1) := by decide +kernel
theorem dX1_readRule_45 : decode k_X1_readRule.2.1 45 = .ok (.aload_n 0, 1) := by decide +kernel
theorem dX1_readRule_46 : decode k_X1_readRule.2.1 46 = .ok (.invokevirtual 48, 3) := by decide +kernel
theorem dX1_readRule_49 : decode k_X1_readRule.2.1 49 = .ok (.istore_n 2, 1) := by decide +kernel
theorem dX1_readRule_50 : decode k_X1_readRule.2.1 50 = .ok (.aload_n 0, 1) := by decide +kernel
theorem dX1_readRule_51 : decode k_X1_readRule.2.1 51 = .ok (.invokevirtual 52, 3) := by decide +kernel
theorem dX1_readRule_54 : decode k_X1_readRule.2.1 54 = .ok (.ifCond .eq 19, 3) := by decide +kernel
theorem dX1_readRule_57 : decode k_X1_readRule.2.1 57 = .ok (.iload_n 2, 1) := by decide +kernel
theorem dX1_readRule_58 : decode k_X1_readRule.2.1 58 = .ok (.iconst 2, 1) := by decide +kernel
theorem dX1_readRule_59 : decode k_X1_readRule.2.1 59 = .ok (.if_icmp .lt 9, 3) := by decide +kernel
theorem dX1_readRule_62 : decode k_X1_readRule.2.1 62 = .ok (.iload_n 2, 1) := by decide +kernel
theorem dX1_readRule_63 : decode k_X1_readRule.2.1 63 = .ok (.bipush 12, 2) := by decide +kernel
theorem dX1_readRule_65 : decode k_X1_readRule.2.1 65 = .ok (.if_icmp .le 8, 3) := by decide +kernel
theorem dX1_readRule_68 : decode k_X1_readRule.2.1 68 = .ok (.aload_n 0, 1) := by decide +kernel
theorem dX1_readRule_69 : decode k_X1_readRule.2.1 69 = .ok (.iconst 2, 1) := by decide +kernel
theorem dX1_readRule_70 : decode k_X1_readRule.2.1 70 = .ok (.invokevirtual 56, 3) := by decide +kernel
theorem dX1_readRule_73 : decode k_X1_readRule.2.1 73 = .ok (.aload_n 0, 1) := by decide +kernel
theorem dX1_readRule_74 : decode k_X1_readRule.2.1 74 = .ok (.getfield 18, 3) := by decide +kernel
theorem dX1_readRule_77 : decode k_X1_readRule.2.1 77 = .ok (.iload_n 1, 1) := by decide +kernel
theorem dX1_readRule_78 : decode k_X1_readRule.2.1 78 = .ok (.aload_n 0, 1) := by decide +kernel
theorem dX1_readRule_79 : decode k_X1_readRule.2.1 79 = .ok (.aload_n 0, 1) := by decide +kernel
theorem dX1_readRule_80 : decode k_X1_readRule.2.1 80 = .ok (.getfield 12, 3) := by decide +kernel
theorem dX1_readRule_83 : decode k_X1_readRule.2.1 83 = .ok (.iload_n 1, 1) := by decide +kernel
theorem dX1_readRule_84 : decode k_X1_readRule.2.1 84 = .ok (.invokevirtual 79, 3) := by decide +kernel
theorem dX1_readRule_87 : decode k_X1_readRule.2.1 87 = .ok (.iload_n 2, 1) := by decide +kernel
theorem dX1_readRule_88 : decode k_X1_readRule.2.1 88 = .ok (.invokevirtual 83, 3) := by decide +kernel
theorem dX1_readRule_91 : decode k_X1_readRule.2.1 91 = .ok (.iastore, 1) := by decide +kernel
theorem dX1_readRule_92 : decode k_X1_readRule.2.1 92 = .ok (.return_, 1) := by decide +kernel
theorem dX1_readSequence_0 : decode k_X1_readSequence.2.1 0 = .ok (.aload_n 0, 1) := by decide +kernel
theorem dX1_readSequence_1 : decode k_X1_readSequence.2.1 1 = .ok (.invokevirtual 48, 3) := by decide +kernel
theorem dX1_readSequence_4 : decode k_X1_readSequence.2.1 4 = .ok (.istore_n 1, 1) := by decide +kernel
theorem dX1_readSequence_5 : decode k_X1_readSequence.2.1 5 = .ok (.aload_n 0, 1) := by decide +kernel
theorem dX1_readSequence_6 : decode k_X1_readSequence.2.1 6 = .ok (.invokevirtual 52, 3) := by decide +kernel
theorem dX1_readSequence_9 : decode k_X1_readSequence.2.1 9 = .ok (.ifCond .eq 15, 3) := by decide +kernel
theorem dX1_readSequence_12 : decode k_X1_readSequence.2.1 12 = .ok (.iload_n 1, 1) := by decide +kernel
theorem dX1_readSequence_13 : decode k_X1_readSequence.2.1 13 = .ok (.sipush 240, 3) := by decide +kernel
theorem dX1_readSequence_16 : decode k_X1_readSequence.2.1 16 = .ok (.if_icmp .le 8, 3) := by decide +kernel
theorem dX1_readSequence_19 : decode k_X1_readSequence.2.1 19 = .ok (.aload_n 0, 1) := by decide +kernel
theorem dX1_readSequence_20 : decode k_X1_readSequence.2.1 20 = .ok (.iconst 2, 1) := by decide +kernel
theorem dX1_readSequence_21 : decode k_X1_readSequence.2.1 21 = .ok (.invokevirtual 56, 3) := by decide +kernel
theorem dX1_readSequence_24 : decode k_X1_readSequence.2.1 24 = .ok (.aload_n 0, 1) := by decide +kernel
theorem dX1_readSequence_25 : decode k_X1_readSequence.2.1 25 = .ok (.aload_n 0, 1) := by decide +kernel
theorem dX1_readSequence_26 : decode k_X1_readSequence.2.1 26 = .ok (.getfield 12, 3) := by decide +kernel
theorem dX1_readSequence_29 : decode k_X1_readSequence.2.1 29 = .ok (.invokevirtual 87, 3) := by decide +kernel
theorem dX1_readSequence_32 : decode k_X1_readSequence.2.1 32 = .ok (.iload_n 1, 1) := by decide +kernel
theorem dX1_readSequence_33 : decode k_X1_readSequence.2.1 33 = .ok (.invokevirtual 83, 3) := by decide +kernel
theorem dX1_readSequence_36 : decode k_X1_readSequence.2.1 36 = .ok (.pop, 1) := by decide +kernel
theorem dX1_readSequence_37 : decode k_X1_readSequence.2.1 37 = .ok (.return_, 1) := by decide +kernel
theorem dX1_readRow_0 : decode k_X1_readRow.2.1 0 = .ok (.iconst 0, 1) := by decide +kernel
theorem dX1_readRow_1 : decode k_X1_readRow.2.1 1 = .ok (.istore_n 3, 1) := by decide +kernel
theorem dX1_readRow_2 : decode k_X1_readRow.2.1 2 = .ok (.iconst 0, 1) := by decide +kernel
theorem dX1_readRow_3 : decode k_X1_readRow.2.1 3 = .ok (.istore 4, 2) := by decide +kernel
theorem dX1_readRow_5 : decode k_X1_readRow.2.1 5 = .ok (.iload 4, 2) := by decide +kernel
theorem dX1_readRow_7 : decode k_X1_readRow.2.1 7 = .ok (.iload_n 2, 1) := by decide +kernel
theorem dX1_readRow_8 : decode k_X1_readRow.2.1 8 = .ok (.if_icmp .ge 73, 3) := by decide +kernel
theorem dX1_readRow_11 : decode k_X1_readRow.2.1 11 = .ok (.aload_n 0, 1) := by decide +kernel
theorem dX1_readRow_12 : decode k_X1_readRow.2.1 12 = .ok (.invokevirtual 52, 3) := by decide +kernel
theorem dX1_readRow_15 : decode k_X1_readRow.2.1 15 = .ok (.ifCond .eq 66, 3) := by decide +kernel
theorem dX1_readRow_18 : decode k_X1_readRow.2.1 18 = .ok (.aload_n 0, 1) := by decide +kernel
theorem dX1_readRow_19 : decode k_X1_readRow.2.1 19 = .ok (.invokevirtual 48, 3) := by decide +kernel
theorem dX1_readRow_22 : decode k_X1_readRow.2.1 22 = .ok (.istore 5, 2) := by decide +kernel
theorem dX1_readRow_24 : decode k_X1_readRow.2.1 24 = .ok (.aload_n 0, 1) := by decide +kernel
theorem dX1_readRow_25 : decode k_X1_readRow.2.1 25 = .ok (.invokevirtual 52, 3) := by decide +kernel
theorem dX1_readRow_28 : decode k_X1_readRow.2.1 28 = .ok (.ifCond .eq 47, 3) := by decide +kernel
theorem dX1_readRow_31 : decode k_X1_readRow.2.1 31 = .ok (.iload_n 3, 1) := by decide +kernel
theorem dX1_readRow_32 : decode k_X1_readRow.2.1 32 = .ok (.aload_n 0, 1) := by decide +kernel
theorem dX1_readRow_33 : decode k_X1_readRow.2.1 33 = .ok (.iload 5, 2) := by decide +kernel
theorem dX1_readRow_35 : decode k_X1_readRow.2.1 35 = .ok (.invokevirtual 76, 3) := by decide +kernel
theorem dX1_readRow_38 : decode k_X1_readRow.2.1 38 = .ok (.iadd, 1) := by decide +kernel
theorem dX1_readRow_39 : decode k_X1_readRow.2.1 39 = .ok (.istore_n 3, 1) := by decide +kernel
theorem dX1_readRow_40 : decode k_X1_readRow.2.1 40 = .ok (.aload_n 0, 1) := by decide +kernel
theorem dX1_readRow_41 : decode k_X1_readRow.2.1 41 = .ok (.iload 5, 2) := by decide +kernel
theorem dX1_readRow_43 : decode k_X1_readRow.2.1 43 = .ok (.invokevirtual 76, 3) := by decide +kernel
theorem dX1_readRow_46 : decode k_X1_readRow.2.1 46 = .ok (.ifCond .ne 11, 3) := by decide +kernel
theorem dX1_readRow_49 : decode k_X1_readRow.2.1 49 = .ok (.aload_n 0, 1) := by decide +kernel
theorem dX1_readRow_50 : decode k_X1_readRow.2.1 50 = .ok (.iconst 3, 1) := by decide +kernel
theorem dX1_readRow_51 : decode k_X1_readRow.2.1 51 = .ok (.invokevirtual 56, 3) := by decide +kernel
theorem dX1_readRow_54 : decode k_X1_readRow.2.1 54 = .ok (.goto 15, 3) := by decide +kernel
theorem dX1_readRow_57 : decode k_X1_readRow.2.1 57 = .ok (.iload_n 3, 1) := by decide +kernel
theorem dX1_readRow_58 : decode k_X1_readRow.2.1 58 = .ok (.sipush 240, 3) := by decide +kernel
theorem dX1_readRow_61 : decode k_X1_readRow.2.1 61 = .ok (.if_icmp .le 8, 3) := by decide +kernel
theorem dX1_readRow_64 : decode k_X1_readRow.2.1 64 = .ok (.aload_n 0, 1) := by decide +kernel
theorem dX1_readRow_65 : decode k_X1_readRow.2.1 65 = .ok (.iconst 4, 1) := by decide +kernel
theorem dX1_readRow_66 : decode k_X1_readRow.2.1 66 = .ok (.invokevirtual 56, 3) := by decide +kernel
theorem dX1_readRow_69 : decode k_X1_readRow.2.1 69 = .ok (.aload_n 1, 1) := by decide +kernel
theorem dX1_readRow_70 : decode k_X1_readRow.2.1 70 = .ok (.iload 5, 2) := by decide +kernel
theorem dX1_readRow_72 : decode k_X1_readRow.2.1 72 = .ok (.invokevirtual 91, 3) := by decide +kernel
theorem dX1_readRow_75 : decode k_X1_readRow.2.1 75 = .ok (.iinc 4 1, 3) := by decide +kernel
theorem dX1_readRow_78 : decode k_X1_readRow.2.1 78 = .ok (.goto (-73), 3) := by decide +kernel
theorem dX1_readRow_81 : decode k_X1_readRow.2.1 81 = .ok (.iload_n 3, 1) := by decide +kernel
theorem dX1_readRow_82 : decode k_X1_readRow.2.1 82 = .ok (.ireturn, 1) := by decide +kernel
theorem dX2_init_0 : decode k_X2_init.2.1 0 = .ok (.aload_n 0, 1) := by decide +kernel
theorem dX2_init_1 : decode k_X2_init.2.1 1 = .ok (.invokespecial 3, 3) := by decide +kernel
theorem dX2_init_4 : decode k_X2_init.2.1 4 = .ok (.aload_n 0, 1) := by decide +kernel
theorem dX2_init_5 : decode k_X2_init.2.1 5 = .ok (.new 9, 3) := by decide +kernel
theorem dX2_init_8 : decode k_X2_init.2.1 8 = .ok (.dup, 1) := by decide +kernel
theorem dX2_init_9 : decode k_X2_init.2.1 9 = .ok (.sipush 240, 3) := by decide +kernel
theorem dX2_init_12 : decode k_X2_init.2.1 12 = .ok (.invokespecial 11, 3) := by decide +kernel
theorem dX2_init_15 : decode k_X2_init.2.1 15 = .ok (.putfield 14, 3) := by decide +kernel
theorem dX2_init_18 : decode k_X2_init.2.1 18 = .ok (.aload_n 0, 1) := by decide +kernel
theorem dX2_init_19 : decode k_X2_init.2.1 19 = .ok (.bipush 60, 2) := by decide +kernel
theorem dX2_init_21 : decode k_X2_init.2.1 21 = .ok (.anewarray 9, 3) := by decide +kernel
theorem dX2_init_24 : decode k_X2_init.2.1 24 = .ok (.putfield 20, 3) := by decide +kernel
theorem dX2_init_27 : decode k_X2_init.2.1 27 = .ok (.aload_n 0, 1) := by decide +kernel
theorem dX2_init_28 : decode k_X2_init.2.1 28 = .ok (.new 9, 3) := by decide +kernel
theorem dX2_init_31 : decode k_X2_init.2.1 31 = .ok (.dup, 1) := by decide +kernel
theorem dX2_init_32 : decode k_X2_init.2.1 32 = .ok (.iconst 0, 1) := by decide +kernel
theorem dX2_init_33 : decode k_X2_init.2.1 33 = .ok (.invokespecial 11, 3) := by decide +kernel
theorem dX2_init_36 : decode k_X2_init.2.1 36 = .ok (.putfield 24, 3) := by decide +kernel
theorem dX2_init_39 : decode k_X2_init.2.1 39 = .ok (.iconst 0, 1) := by decide +kernel
theorem dX2_init_40 : decode k_X2_init.2.1 40 = .ok (.istore_n 1, 1) := by decide +kernel
theorem dX2_init_41 : decode k_X2_init.2.1 41 = .ok (.iload_n 1, 1) := by decide +kernel
theorem dX2_init_42 : decode k_X2_init.2.1 42 = .ok (.bipush 60, 2) := by decide +kernel
theorem dX2_init_44 : decode k_X2_init.2.1 44 = .ok (.if_icmp .ge 24, 3) := by decide +kernel
theorem dX2_init_47 : decode k_X2_init.2.1 47 = .ok (.aload_n 0, 1) := by decide +kernel
theorem dX2_init_48 : decode k_X2_init.2.1 48 = .ok (.getfield 20, 3) := by decide +kernel
theorem dX2_init_51 : decode k_X2_init.2.1 51 = .ok (.iload_n 1, 1) := by decide +kernel
theorem dX2_init_52 : decode k_X2_init.2.1 52 = .ok (.new 9, 3) := by decide +kernel
theorem dX2_init_55 : decode k_X2_init.2.1 55 = .ok (.dup, 1) := by decide +kernel
theorem dX2_init_56 : decode k_X2_init.2.1 56 = .ok (.bipush 12, 2) := by decide +kernel
theorem dX2_init_58 : decode k_X2_init.2.1 58 = .ok (.invokespecial 11, 3) := by decide +kernel
theorem dX2_init_61 : decode k_X2_init.2.1 61 = .ok (.aastore, 1) := by decide +kernel
theorem dX2_init_62 : decode k_X2_init.2.1 62 = .ok (.iinc 1 1, 3) := by decide +kernel
theorem dX2_init_65 : decode k_X2_init.2.1 65 = .ok (.goto (-24), 3) := by decide +kernel
theorem dX2_init_68 : decode k_X2_init.2.1 68 = .ok (.return_, 1) := by decide +kernel
theorem dX2_sequence_0 : decode k_X2_sequence.2.1 0 = .ok (.aload_n 0, 1) := by decide +kernel
theorem dX2_sequence_1 : decode k_X2_sequence.2.1 1 = .ok (.getfield 14, 3) := by decide +kernel
theorem dX2_sequence_4 : decode k_X2_sequence.2.1 4 = .ok (.areturn, 1) := by decide +kernel
theorem dX2_rowOf_0 : decode k_X2_rowOf.2.1 0 = .ok (.iload_n 1, 1) := by decide +kernel
theorem dX2_rowOf_1 : decode k_X2_rowOf.2.1 1 = .ok (.bipush 26, 2) := by decide +kernel
theorem dX2_rowOf_3 : decode k_X2_rowOf.2.1 3 = .ok (.if_icmp .lt 21, 3) := by decide +kernel
theorem dX2_rowOf_6 : decode k_X2_rowOf.2.1 6 = .ok (.iload_n 1, 1) := by decide +kernel
theorem dX2_rowOf_7 : decode k_X2_rowOf.2.1 7 = .ok (.bipush 86, 2) := by decide +kernel
theorem dX2_rowOf_9 : decode k_X2_rowOf.2.1 9 = .ok (.if_icmp .ge 15, 3) := by decide +kernel
theorem dX2_rowOf_12 : decode k_X2_rowOf.2.1 12 = .ok (.aload_n 0, 1) := by decide +kernel
theorem dX2_rowOf_13 : decode k_X2_rowOf.2.1 13 = .ok (.getfield 20, 3) := by decide +kernel
theorem dX2_rowOf_16 : decode k_X2_rowOf.2.1 16 = .ok (.iload_n 1, 1) := by decide +kernel
theorem dX2_rowOf_17 : decode k_X2_rowOf.2.1 17 = .ok (.bipush 26, 2) := by decide +kernel
theorem dX2_rowOf_19 : decode k_X2_rowOf.2.1 19 = .ok (.isub, 1) := by decide +kernel
theorem dX2_rowOf_20 : decode k_X2_rowOf.2.1 20 = .ok (.aaload, 1) := by decide +kernel
theorem dX2_rowOf_21 : decode k_X2_rowOf.2.1 21 = .ok (.goto 7, 3) := by decide +kernel
theorem dX2_rowOf_24 : decode k_X2_rowOf.2.1 24 = .ok (.aload_n 0, 1) := by decide +kernel
theorem dX2_rowOf_25 : decode k_X2_rowOf.2.1 25 = .ok (.getfield 24, 3) := by decide +kernel
theorem dX2_rowOf_28 : decode k_X2_rowOf.2.1 28 = .ok (.areturn, 1) := by decide +kernel
theorem dX2_isRule_0 : decode k_X2_isRule.2.1 0 = .ok (.aload_n 0, 1) := by decide +kernel
theorem dX2_isRule_1 : decode k_X2_isRule.2.1 1 = .ok (.iload_n 1, 1) := by decide +kernel
theorem dX2_isRule_2 : decode k_X2_isRule.2.1 2 = .ok (.invokevirtual 27, 3) := by decide +kernel
theorem dX2_isRule_5 : decode k_X2_isRule.2.1 5 = .ok (.invokevirtual 31, 3) := by decide +kernel
theorem dX2_isRule_8 : decode k_X2_isRule.2.1 8 = .ok (.ifCond .le 7, 3) := by decide +kernel
theorem dX2_isRule_11 : decode k_X2_isRule.2.1 11 = .ok (.iconst 1, 1) := by decide +kernel
theorem dX2_isRule_12 : decode k_X2_isRule.2.1 12 = .ok (.goto 4, 3) := by decide +kernel
theorem dX2_isRule_15 : decode k_X2_isRule.2.1 15 = .ok (.iconst 0, 1) := by decide +kernel
theorem dX2_isRule_16 : decode k_X2_isRule.2.1 16 = .ok (.ireturn, 1) := by decide +kernel
theorem dX2_has_0 : decode k_X2_has.2.1 0 = .ok (.iload_n 1, 1) := by decide +kernel
theorem dX2_has_1 : decode k_X2_has.2.1 1 = .ok (.invokestatic 35, 3) := by decide +kernel
theorem dX2_has_4 : decode k_X2_has.2.1 4 = .ok (.ifCond .ne 11, 3) := by decide +kernel
theorem dX2_has_7 : decode k_X2_has.2.1 7 = .ok (.aload_n 0, 1) := by decide +kernel
theorem dX2_has_8 : decode k_X2_has.2.1 8 = .ok (.iload_n 1, 1) := by decide +kernel
theorem dX2_has_9 : decode k_X2_has.2.1 9 = .ok (.invokevirtual 39, 3) := by decide +kernel
theorem dX2_has_12 : decode k_X2_has.2.1 12 = .ok (.ifCond .eq 7, 3) := by decide +kernel
theorem dX2_has_15 : decode k_X2_has.2.1 15 = .ok (.iconst 1, 1) := by decide +kernel
theorem dX2_has_16 : decode k_X2_has.2.1 16 = .ok (.goto 4, 3) := by decide +kernel
theorem dX2_has_19 : decode k_X2_has.2.1 19 = .ok (.iconst 0, 1) := by decide +kernel
theorem dX2_has_20 : decode k_X2_has.2.1 20 = .ok (.ireturn, 1) := by decide +kernel
theorem dX2_clear_0 : decode k_X2_clear.2.1 0 = .ok (.aload_n 0, 1) := by decide +kernel
theorem dX2_clear_1 : decode k_X2_clear.2.1 1 = .ok (.getfield 14, 3) := by decide +kernel
theorem dX2_clear_4 : decode k_X2_clear.2.1 4 = .ok (.invokevirtual 42, 3) := by decide +kernel
theorem dX2_clear_7 : decode k_X2_clear.2.1 7 = .ok (.iconst 0, 1) := by decide +kernel
theorem dX2_clear_8 : decode k_X2_clear.2.1 8 = .ok (.istore_n 1, 1) := by decide +kernel
theorem dX2_clear_9 : decode k_X2_clear.2.1 9 = .ok (.iload_n 1, 1) := by decide +kernel
theorem dX2_clear_10 : decode k_X2_clear.2.1 10 = .ok (.bipush 60, 2) := by decide +kernel
theorem dX2_clear_12 : decode k_X2_clear.2.1 12 = .ok (.if_icmp .ge 18, 3) := by decide +kernel
theorem dX2_clear_15 : decode k_X2_clear.2.1 15 = .ok (.aload_n 0, 1) := by decide +kernel
theorem dX2_clear_16 : decode k_X2_clear.2.1 16 = .ok (.getfield 20, 3) := by decide +kernel
theorem dX2_clear_19 : decode k_X2_clear.2.1 19 = .ok (.iload_n 1, 1) := by decide +kernel
theorem dX2_clear_20 : decode k_X2_clear.2.1 20 = .ok (.aaload, 1) := by decide +kernel
theorem dX2_clear_21 : decode k_X2_clear.2.1 21 = .ok (.invokevirtual 42, 3) := by decide +kernel
theorem dX2_clear_24 : decode k_X2_clear.2.1 24 = .ok (.iinc 1 1, 3) := by decide +kernel
theorem dX2_clear_27 : decode k_X2_clear.2.1 27 = .ok (.goto (-18), 3) := by decide +kernel
theorem dX2_clear_30 : decode k_X2_clear.2.1 30 = .ok (.return_, 1) := by decide +kernel
theorem dX2_take_0 : decode k_X2_take.2.1 0 = .ok (.aload_n 0, 1) := by decide +kernel
theorem dX2_take_1 : decode k_X2_take.2.1 1 = .ok (.getfield 14, 3) := by decide +kernel
theorem dX2_take_4 : decode k_X2_take.2.1 4 = .ok (.aload_n 1, 1) := by decide +kernel
theorem dX2_take_5 : decode k_X2_take.2.1 5 = .ok (.getfield 14, 3) := by decide +kernel
theorem dX2_take_8 : decode k_X2_take.2.1 8 = .ok (.invokevirtual 45, 3) := by decide +kernel
theorem dX2_take_11 : decode k_X2_take.2.1 11 = .ok (.iconst 0, 1) := by decide +kernel
theorem dX2_take_12 : decode k_X2_take.2.1 12 = .ok (.istore_n 2, 1) := by decide +kernel
theorem dX2_take_13 : decode k_X2_take.2.1 13 = .ok (.iload_n 2, 1) := by decide +kernel
theorem dX2_take_14 : decode k_X2_take.2.1 14 = .ok (.bipush 60, 2) := by decide +kernel
theorem dX2_take_16 : decode k_X2_take.2.1 16 = .ok (.if_icmp .ge 24, 3) := by decide +kernel
theorem dX2_take_19 : decode k_X2_take.2.1 19 = .ok (.aload_n 0, 1) := by decide +kernel
theorem dX2_take_20 : decode k_X2_take.2.1 20 = .ok (.getfield 20, 3) := by decide +kernel
theorem dX2_take_23 : decode k_X2_take.2.1 23 = .ok (.iload_n 2, 1) := by decide +kernel
theorem dX2_take_24 : decode k_X2_take.2.1 24 = .ok (.aaload, 1) := by decide +kernel
theorem dX2_take_25 : decode k_X2_take.2.1 25 = .ok (.aload_n 1, 1) := by decide +kernel
theorem dX2_take_26 : decode k_X2_take.2.1 26 = .ok (.getfield 20, 3) := by decide +kernel
theorem dX2_take_29 : decode k_X2_take.2.1 29 = .ok (.iload_n 2, 1) := by decide +kernel
theorem dX2_take_30 : decode k_X2_take.2.1 30 = .ok (.aaload, 1) := by decide +kernel
theorem dX2_take_31 : decode k_X2_take.2.1 31 = .ok (.invokevirtual 45, 3) := by decide +kernel
theorem dX2_take_34 : decode k_X2_take.2.1 34 = .ok (.iinc 2 1, 3) := by decide +kernel
theorem dX2_take_37 : decode k_X2_take.2.1 37 = .ok (.goto (-24), 3) := by decide +kernel
theorem dX2_take_40 : decode k_X2_take.2.1 40 = .ok (.return_, 1) := by decide +kernel
theorem dX2_ruleCount_0 : decode k_X2_ruleCount.2.1 0 = .ok (.iconst 0, 1) := by decide +kernel
theorem dX2_ruleCount_1 : decode k_X2_ruleCount.2.1 1 = .ok (.istore_n 1, 1) := by decide +kernel
theorem dX2_ruleCount_2 : decode k_X2_ruleCount.2.1 2 = .ok (.iconst 0, 1) := by decide +kernel
theorem dX2_ruleCount_3 : decode k_X2_ruleCount.2.1 3 = .ok (.istore_n 2, 1) := by decide +kernel
theorem dX2_ruleCount_4 : decode k_X2_ruleCount.2.1 4 = .ok (.iload_n 2, 1) := by decide +kernel
theorem dX2_ruleCount_5 : decode k_X2_ruleCount.2.1 5 = .ok (.bipush 60, 2) := by decide +kernel
theorem dX2_ruleCount_7 : decode k_X2_ruleCount.2.1 7 = .ok (.if_icmp .ge 24, 3) := by decide +kernel
theorem dX2_ruleCount_10 : decode k_X2_ruleCount.2.1 10 = .ok (.aload_n 0, 1) := by decide +kernel
theorem dX2_ruleCount_11 : decode k_X2_ruleCount.2.1 11 = .ok (.getfield 20, 3) := by decide +kernel
theorem dX2_ruleCount_14 : decode k_X2_ruleCount.2.1 14 = .ok (.iload_n 2, 1) := by decide +kernel
theorem dX2_ruleCount_15 : decode k_X2_ruleCount.2.1 15 = .ok (.aaload, 1) := by decide +kernel
theorem dX2_ruleCount_16 : decode k_X2_ruleCount.2.1 16 = .ok (.invokevirtual 31, 3) := by decide +kernel
theorem dX2_ruleCount_19 : decode k_X2_ruleCount.2.1 19 = .ok (.ifCond .le 6, 3) := by decide +kernel
theorem dX2_ruleCount_22 : decode k_X2_ruleCount.2.1 22 = .ok (.iinc 1 1, 3) := by decide +kernel
theorem dX2_ruleCount_25 : decode k_X2_ruleCount.2.1 25 = .ok (.iinc 2 1, 3) := by decide +kernel
theorem dX2_ruleCount_28 : decode k_X2_ruleCount.2.1 28 = .ok (.goto (-24), 3) := by decide +kernel
theorem dX2_ruleCount_31 : decode k_X2_ruleCount.2.1 31 = .ok (.iload_n 1, 1) := by decide +kernel
theorem dX2_ruleCount_32 : decode k_X2_ruleCount.2.1 32 = .ok (.ireturn, 1) := by decide +kernel
theorem dX2_size_0 : decode k_X2_size.2.1 0 = .ok (.aload_n 0, 1) := by decide +kernel
theorem dX2_size_1 : decode k_X2_size.2.1 1 = .ok (.getfield 14, 3) := by decide +kernel
theorem dX2_size_4 : decode k_X2_size.2.1 4 = .ok (.invokevirtual 31, 3) := by decide +kernel
theorem dX2_size_7 : decode k_X2_size.2.1 7 = .ok (.istore_n 1, 1) := by decide +kernel
theorem dX2_size_8 : decode k_X2_size.2.1 8 = .ok (.iconst 0, 1) := by decide +kernel
theorem dX2_size_9 : decode k_X2_size.2.1 9 = .ok (.istore_n 2, 1) := by decide +kernel
theorem dX2_size_10 : decode k_X2_size.2.1 10 = .ok (.iload_n 2, 1) := by decide +kernel
theorem dX2_size_11 : decode k_X2_size.2.1 11 = .ok (.bipush 60, 2) := by decide +kernel
theorem dX2_size_13 : decode k_X2_size.2.1 13 = .ok (.if_icmp .ge 21, 3) := by decide +kernel
theorem dX2_size_16 : decode k_X2_size.2.1 16 = .ok (.iload_n 1, 1) := by decide +kernel
theorem dX2_size_17 : decode k_X2_size.2.1 17 = .ok (.aload_n 0, 1) := by decide +kernel
theorem dX2_size_18 : decode k_X2_size.2.1 18 = .ok (.getfield 20, 3) := by decide +kernel
theorem dX2_size_21 : decode k_X2_size.2.1 21 = .ok (.iload_n 2, 1) := by decide +kernel
theorem dX2_size_22 : decode k_X2_size.2.1 22 = .ok (.aaload, 1) := by decide +kernel
theorem dX2_size_23 : decode k_X2_size.2.1 23 = .ok (.invokevirtual 31, 3) := by decide +kernel
theorem dX2_size_26 : decode k_X2_size.2.1 26 = .ok (.iadd, 1) := by decide +kernel
theorem dX2_size_27 : decode k_X2_size.2.1 27 = .ok (.istore_n 1, 1) := by decide +kernel
theorem dX2_size_28 : decode k_X2_size.2.1 28 = .ok (.iinc 2 1, 3) := by decide +kernel
theorem dX2_size_31 : decode k_X2_size.2.1 31 = .ok (.goto (-21), 3) := by decide +kernel
theorem dX2_size_34 : decode k_X2_size.2.1 34 = .ok (.iload_n 1, 1) := by decide +kernel
theorem dX2_size_35 : decode k_X2_size.2.1 35 = .ok (.ireturn, 1) := by decide +kernel
theorem dX2_usesOf_0 : decode k_X2_usesOf.2.1 0 = .ok (.aload_n 0, 1) := by decide +kernel
theorem dX2_usesOf_1 : decode k_X2_usesOf.2.1 1 = .ok (.getfield 14, 3) := by decide +kernel
theorem dX2_usesOf_4 : decode k_X2_usesOf.2.1 4 = .ok (.iload_n 1, 1) := by decide +kernel
theorem dX2_usesOf_5 : decode k_X2_usesOf.2.1 5 = .ok (.invokevirtual 49, 3) := by decide +kernel
theorem dX2_usesOf_8 : decode k_X2_usesOf.2.1 8 = .ok (.istore_n 2, 1) := by decide +kernel
theorem dX2_usesOf_9 : decode k_X2_usesOf.2.1 9 = .ok (.iconst 0, 1) := by decide +kernel
theorem dX2_usesOf_10 : decode k_X2_usesOf.2.1 10 = .ok (.istore_n 3, 1) := by decide +kernel
theorem dX2_usesOf_11 : decode k_X2_usesOf.2.1 11 = .ok (.iload_n 3, 1) := by decide +kernel
theorem dX2_usesOf_12 : decode k_X2_usesOf.2.1 12 = .ok (.bipush 60, 2) := by decide +kernel
theorem dX2_usesOf_14 : decode k_X2_usesOf.2.1 14 = .ok (.if_icmp .ge 22, 3) := by decide +kernel
theorem dX2_usesOf_17 : decode k_X2_usesOf.2.1 17 = .ok (.iload_n 2, 1) := by decide +kernel
theorem dX2_usesOf_18 : decode k_X2_usesOf.2.1 18 = .ok (.aload_n 0, 1) := by decide +kernel
theorem dX2_usesOf_19 : decode k_X2_usesOf.2.1 19 = .ok (.getfield 20, 3) := by decide +kernel
theorem dX2_usesOf_22 : decode k_X2_usesOf.2.1 22 = .ok (.iload_n 3, 1) := by decide +kernel
theorem dX2_usesOf_23 : decode k_X2_usesOf.2.1 23 = .ok (.aaload, 1) := by decide +kernel
theorem dX2_usesOf_24 : decode k_X2_usesOf.2.1 24 = .ok (.iload_n 1, 1) := by decide +kernel
theorem dX2_usesOf_25 : decode k_X2_usesOf.2.1 25 = .ok (.invokevirtual 49, 3) := by decide +kernel
theorem dX2_usesOf_28 : decode k_X2_usesOf.2.1 28 = .ok (.iadd, 1) := by decide +kernel
theorem dX2_usesOf_29 : decode k_X2_usesOf.2.1 29 = .ok (.istore_n 2, 1) := by decide +kernel
theorem dX2_usesOf_30 : decode k_X2_usesOf.2.1 30 = .ok (.iinc 3 1, 3) := by decide +kernel
theorem dX2_usesOf_33 : decode k_X2_usesOf.2.1 33 = .ok (.goto (-22), 3) := by decide +kernel
theorem dX2_usesOf_36 : decode k_X2_usesOf.2.1 36 = .ok (.iload_n 2, 1) := by decide +kernel
theorem dX2_usesOf_37 : decode k_X2_usesOf.2.1 37 = .ok (.ireturn, 1) := by decide +kernel
theorem dX2_freeSign_0 : decode k_X2_freeSign.2.1 0 = .ok (.iconst 0, 1) := by decide +kernel
theorem dX2_freeSign_1 : decode k_X2_freeSign.2.1 1 = .ok (.istore_n 1, 1) := by decide +kernel
theorem dX2_freeSign_2 : decode k_X2_freeSign.2.1 2 = .ok (.iload_n 1, 1) := by decide +kernel
theorem dX2_freeSign_3 : decode k_X2_freeSign.2.1 3 = .ok (.bipush 60, 2) := by decide +kernel
theorem dX2_freeSign_5 : decode k_X2_freeSign.2.1 5 = .ok (.if_icmp .ge 26, 3) := by decide +kernel
theorem dX2_freeSign_8 : decode k_X2_freeSign.2.1 8 = .ok (.aload_n 0, 1) := by decide +kernel
theorem dX2_freeSign_9 : decode k_X2_freeSign.2.1 9 = .ok (.getfield 20, 3) := by decide +kernel
theorem dX2_freeSign_12 : decode k_X2_freeSign.2.1 12 = .ok (.iload_n 1, 1) := by decide +kernel
theorem dX2_freeSign_13 : decode k_X2_freeSign.2.1 13 = .ok (.aaload, 1) := by decide +kernel
theorem dX2_freeSign_14 : decode k_X2_freeSign.2.1 14 = .ok (.invokevirtual 31, 3) := by decide +kernel
theorem dX2_freeSign_17 : decode k_X2_freeSign.2.1 17 = .ok (.ifCond .ne 8, 3) := by decide +kernel
theorem dX2_freeSign_20 : decode k_X2_freeSign.2.1 20 = .ok (.bipush 26, 2) := by decide +kernel
theorem dX2_freeSign_22 : decode k_X2_freeSign.2.1 22 = .ok (.iload_n 1, 1) := by decide +kernel
theorem dX2_freeSign_23 : decode k_X2_freeSign.2.1 23 = .ok (.iadd, 1) := by decide +kernel
theorem dX2_freeSign_24 : decode k_X2_freeSign.2.1 24 = .ok (.ireturn, 1) := by decide +kernel
theorem dX2_freeSign_25 : decode k_X2_freeSign.2.1 25 = .ok (.iinc 1 1, 3) := by decide +kernel
theorem dX2_freeSign_28 : decode k_X2_freeSign.2.1 28 = .ok (.goto (-26), 3) := by decide +kernel
theorem dX2_freeSign_31 : decode k_X2_freeSign.2.1 31 = .ok (.iconst (-1), 1) := by decide +kernel
theorem dX2_freeSign_32 : decode k_X2_freeSign.2.1 32 = .ok (.ireturn, 1) := by decide +kernel
theorem dX2_ruleOf_0 : decode k_X2_ruleOf.2.1 0 = .ok (.iconst 0, 1) := by decide +kernel
theorem dX2_ruleOf_1 : decode k_X2_ruleOf.2.1 1 = .ok (.istore_n 3, 1) := by decide +kernel
theorem dX2_ruleOf_2 : decode k_X2_ruleOf.2.1 2 = .ok (.iload_n 3, 1) := by decide +kernel
theorem dX2_ruleOf_3 : decode k_X2_ruleOf.2.1 3 = .ok (.bipush 60, 2) := by decide +kernel
theorem dX2_ruleOf_5 : decode k_X2_ruleOf.2.1 5 = .ok (.if_icmp .ge 28, 3) := by decide +kernel
theorem dX2_ruleOf_8 : decode k_X2_ruleOf.2.1 8 = .ok (.aload_n 0, 1) := by decide +kernel
theorem dX2_ruleOf_9 : decode k_X2_ruleOf.2.1 9 = .ok (.getfield 20, 3) := by decide +kernel
theorem dX2_ruleOf_12 : decode k_X2_ruleOf.2.1 12 = .ok (.iload_n 3, 1) := by decide +kernel
theorem dX2_ruleOf_13 : decode k_X2_ruleOf.2.1 13 = .ok (.aaload, 1) := by decide +kernel
theorem dX2_ruleOf_14 : decode k_X2_ruleOf.2.1 14 = .ok (.iload_n 1, 1) := by decide +kernel
theorem dX2_ruleOf_15 : decode k_X2_ruleOf.2.1 15 = .ok (.iload_n 2, 1) := by decide +kernel
theorem dX2_ruleOf_16 : decode k_X2_ruleOf.2.1 16 = .ok (.invokevirtual 53, 3) := by decide +kernel
theorem dX2_ruleOf_19 : decode k_X2_ruleOf.2.1 19 = .ok (.ifCond .eq 8, 3) := by decide +kernel
theorem dX2_ruleOf_22 : decode k_X2_ruleOf.2.1 22 = .ok (.bipush 26, 2) := by decide +kernel
theorem dX2_ruleOf_24 : decode k_X2_ruleOf.2.1 24 = .ok (.iload_n 3, 1) := by decide +kernel
theorem dX2_ruleOf_25 : decode k_X2_ruleOf.2.1 25 = .ok (.iadd, 1) := by decide +kernel
theorem dX2_ruleOf_26 : decode k_X2_ruleOf.2.1 26 = .ok (.ireturn, 1) := by decide +kernel
theorem dX2_ruleOf_27 : decode k_X2_ruleOf.2.1 27 = .ok (.iinc 3 1, 3) := by decide +kernel
theorem dX2_ruleOf_30 : decode k_X2_ruleOf.2.1 30 = .ok (.goto (-28), 3) := by decide +kernel
theorem dX2_ruleOf_33 : decode k_X2_ruleOf.2.1 33 = .ok (.iconst (-1), 1) := by decide +kernel
theorem dX2_ruleOf_34 : decode k_X2_ruleOf.2.1 34 = .ok (.ireturn, 1) := by decide +kernel
theorem dX2_signFor_0 : decode k_X2_signFor.2.1 0 = .ok (.aload_n 0, 1) := by decide +kernel
theorem dX2_signFor_1 : decode k_X2_signFor.2.1 1 = .ok (.iload_n 1, 1) := by decide +kernel
theorem dX2_signFor_2 : decode k_X2_signFor.2.1 2 = .ok (.iload_n 2, 1) := by decide +kernel
theorem dX2_signFor_3 : decode k_X2_signFor.2.1 3 = .ok (.invokevirtual 57, 3) := by decide +kernel
theorem dX2_signFor_6 : decode k_X2_signFor.2.1 6 = .ok (.istore_n 3, 1) := by decide +kernel
theorem dX2_signFor_7 : decode k_X2_signFor.2.1 7 = .ok (.iload_n 3, 1) := by decide +kernel
theorem dX2_signFor_8 : decode k_X2_signFor.2.1 8 = .ok (.iconst (-1), 1) := by decide +kernel
theorem dX2_signFor_9 : decode k_X2_signFor.2.1 9 = .ok (.if_icmp .ne 10, 3) := by decide +kernel
theorem dX2_signFor_12 : decode k_X2_signFor.2.1 12 = .ok (.aload_n 0, 1) := by decide +kernel
theorem dX2_signFor_13 : decode k_X2_signFor.2.1 13 = .ok (.invokevirtual 61, 3) := by decide +kernel
theorem dX2_signFor_16 : decode k_X2_signFor.2.1 16 = .ok (.goto 4, 3) := by decide +kernel
theorem dX2_signFor_19 : decode k_X2_signFor.2.1 19 = .ok (.iload_n 3, 1) := by decide +kernel
theorem dX2_signFor_20 : decode k_X2_signFor.2.1 20 = .ok (.ireturn, 1) := by decide +kernel
theorem dX2_joinPair_0 : decode k_X2_joinPair.2.1 0 = .ok (.aload_n 0, 1) := by decide +kernel
theorem dX2_joinPair_1 : decode k_X2_joinPair.2.1 1 = .ok (.iload_n 1, 1) := by decide +kernel
theorem dX2_joinPair_2 : decode k_X2_joinPair.2.1 2 = .ok (.iload_n 2, 1) := by decide +kernel
theorem dX2_joinPair_3 : decode k_X2_joinPair.2.1 3 = .ok (.invokevirtual 64, 3) := by decide +kernel
theorem dX2_joinPair_6 : decode k_X2_joinPair.2.1 6 = .ok (.istore_n 3, 1) := by decide +kernel
theorem dX2_joinPair_7 : decode k_X2_joinPair.2.1 7 = .ok (.iload_n 3, 1) := by decide +kernel
theorem dX2_joinPair_8 : decode k_X2_joinPair.2.1 8 = .ok (.iconst (-1), 1) := by decide +kernel
theorem dX2_joinPair_9 : decode k_X2_joinPair.2.1 9 = .ok (.if_icmp .ne 5, 3) := by decide +kernel
theorem dX2_joinPair_12 : decode k_X2_joinPair.2.1 12 = .ok (.iconst (-1), 1) := by decide +kernel
theorem dX2_joinPair_13 : decode k_X2_joinPair.2.1 13 = .ok (.ireturn, 1) := by decide +kernel
theorem dX2_joinPair_14 : decode k_X2_joinPair.2.1 14 = .ok (.aload_n 0, 1) := by decide +kernel
theorem dX2_joinPair_15 : decode k_X2_joinPair.2.1 15 = .ok (.iload_n 3, 1) := by decide +kernel
theorem dX2_joinPair_16 : decode k_X2_joinPair.2.1 16 = .ok (.invokevirtual 27, 3) := by decide +kernel
theorem dX2_joinPair_19 : decode k_X2_joinPair.2.1 19 = .ok (.astore 4, 2) := by decide +kernel
theorem dX2_joinPair_21 : decode k_X2_joinPair.2.1 21 = .ok (.aload 4, 2) := by decide +kernel
theorem dX2_joinPair_23 : decode k_X2_joinPair.2.1 23 = .ok (.invokevirtual 31, 3) := by decide +kernel
theorem dX2_joinPair_26 : decode k_X2_joinPair.2.1 26 = .ok (.ifCond .ne 15, 3) := by decide +kernel
theorem dX2_joinPair_29 : decode k_X2_joinPair.2.1 29 = .ok (.aload 4, 2) := by decide +kernel
theorem dX2_joinPair_31 : decode k_X2_joinPair.2.1 31 = .ok (.iload_n 1, 1) := by decide +kernel
theorem dX2_joinPair_32 : decode k_X2_joinPair.2.1 32 = .ok (.invokevirtual 67, 3) := by decide +kernel
theorem dX2_joinPair_35 : decode k_X2_joinPair.2.1 35 = .ok (.aload 4, 2) := by decide +kernel
theorem dX2_joinPair_37 : decode k_X2_joinPair.2.1 37 = .ok (.iload_n 2, 1) := by decide +kernel
theorem dX2_joinPair_38 : decode k_X2_joinPair.2.1 38 = .ok (.invokevirtual 67, 3) := by decide +kernel
theorem dX2_joinPair_41 : decode k_X2_joinPair.2.1 41 = .ok (.aload_n 0, 1) := by decide +kernel
theorem dX2_joinPair_42 : decode k_X2_joinPair.2.1 42 = .ok (.getfield 14, 3) := by decide +kernel
theorem dX2_joinPair_45 : decode k_X2_joinPair.2.1 45 = .ok (.iload_n 1, 1) := by decide +kernel
theorem dX2_joinPair_46 : decode k_X2_joinPair.2.1 46 = .ok (.iload_n 2, 1) := by decide +kernel
theorem dX2_joinPair_47 : decode k_X2_joinPair.2.1 47 = .ok (.iload_n 3, 1) := by decide +kernel
theorem dX2_joinPair_48 : decode k_X2_joinPair.2.1 48 = .ok (.invokevirtual 70, 3) := by decide +kernel
theorem dX2_joinPair_51 : decode k_X2_joinPair.2.1 51 = .ok (.iload_n 3, 1) := by decide +kernel
theorem dX2_joinPair_52 : decode k_X2_joinPair.2.1 52 = .ok (.ireturn, 1) := by decide +kernel
theorem dX2_canGiveUp_0 : decode k_X2_canGiveUp.2.1 0 = .ok (.aload_n 0, 1) := by decide +kernel
theorem dX2_canGiveUp_1 : decode k_X2_canGiveUp.2.1 1 = .ok (.iload_n 1, 1) := by decide +kernel
theorem dX2_canGiveUp_2 : decode k_X2_canGiveUp.2.1 2 = .ok (.invokevirtual 27, 3) := by decide +kernel
theorem dX2_canGiveUp_5 : decode k_X2_canGiveUp.2.1 5 = .ok (.invokevirtual 31, 3) := by decide +kernel
theorem dX2_canGiveUp_8 : decode k_X2_canGiveUp.2.1 8 = .ok (.iconst 1, 1) := by decide +kernel
theorem dX2_canGiveUp_9 : decode k_X2_canGiveUp.2.1 9 = .ok (.isub, 1) := by decide +kernel
theorem dX2_canGiveUp_10 : decode k_X2_canGiveUp.2.1 10 = .ok (.istore_n 2, 1) := by decide +kernel
theorem dX2_canGiveUp_11 : decode k_X2_canGiveUp.2.1 11 = .ok (.iconst 0, 1) := by decide +kernel
theorem dX2_canGiveUp_12 : decode k_X2_canGiveUp.2.1 12 = .ok (.istore_n 3, 1) := by decide +kernel
theorem dX2_canGiveUp_13 : decode k_X2_canGiveUp.2.1 13 = .ok (.iload_n 3, 1) := by decide +kernel
theorem dX2_canGiveUp_14 : decode k_X2_canGiveUp.2.1 14 = .ok (.bipush 60, 2) := by decide +kernel
theorem dX2_canGiveUp_16 : decode k_X2_canGiveUp.2.1 16 = .ok (.if_icmp .ge 38, 3) := by decide +kernel
theorem dX2_canGiveUp_19 : decode k_X2_canGiveUp.2.1 19 = .ok (.aload_n 0, 1) := by decide +kernel
theorem dX2_canGiveUp_20 : decode k_X2_canGiveUp.2.1 20 = .ok (.getfield 20, 3) := by decide +kernel
theorem dX2_canGiveUp_23 : decode k_X2_canGiveUp.2.1 23 = .ok (.iload_n 3, 1) := by decide +kernel
theorem dX2_canGiveUp_24 : decode k_X2_canGiveUp.2.1 24 = .ok (.aaload, 1) := by decide +kernel
theorem dX2_canGiveUp_25 : decode k_X2_canGiveUp.2.1 25 = .ok (.invokevirtual 31, 3) := by decide +kernel
theorem dX2_canGiveUp_28 : decode k_X2_canGiveUp.2.1 28 = .ok (.aload_n 0, 1) := by decide +kernel
theorem dX2_canGiveUp_29 : decode k_X2_canGiveUp.2.1 29 = .ok (.getfield 20, 3) := by decide +kernel
theorem dX2_canGiveUp_32 : decode k_X2_canGiveUp.2.1 32 = .ok (.iload_n 3, 1) := by decide +kernel
theorem dX2_canGiveUp_33 : decode k_X2_canGiveUp.2.1 33 = .ok (.aaload, 1) := by decide +kernel
theorem dX2_canGiveUp_34 : decode k_X2_canGiveUp.2.1 34 = .ok (.iload_n 1, 1) := by decide +kernel
theorem dX2_canGiveUp_35 : decode k_X2_canGiveUp.2.1 35 = .ok (.invokevirtual 49, 3) := by decide +kernel
theorem dX2_canGiveUp_38 : decode k_X2_canGiveUp.2.1 38 = .ok (.iload_n 2, 1) := by decide +kernel
theorem dX2_canGiveUp_39 : decode k_X2_canGiveUp.2.1 39 = .ok (.imul, 1) := by decide +kernel
theorem dX2_canGiveUp_40 : decode k_X2_canGiveUp.2.1 40 = .ok (.iadd, 1) := by decide +kernel
theorem dX2_canGiveUp_41 : decode k_X2_canGiveUp.2.1 41 = .ok (.bipush 12, 2) := by decide +kernel
theorem dX2_canGiveUp_43 : decode k_X2_canGiveUp.2.1 43 = .ok (.if_icmp .le 5, 3) := by decide +kernel
theorem dX2_canGiveUp_46 : decode k_X2_canGiveUp.2.1 46 = .ok (.iconst 0, 1) := by decide +kernel
theorem dX2_canGiveUp_47 : decode k_X2_canGiveUp.2.1 47 = .ok (.ireturn, 1) := by decide +kernel
theorem dX2_canGiveUp_48 : decode k_X2_canGiveUp.2.1 48 = .ok (.iinc 3 1, 3) := by decide +kernel
theorem dX2_canGiveUp_51 : decode k_X2_canGiveUp.2.1 51 = .ok (.goto (-38), 3) := by decide +kernel
theorem dX2_canGiveUp_54 : decode k_X2_canGiveUp.2.1 54 = .ok (.iconst 1, 1) := by decide +kernel
theorem dX2_canGiveUp_55 : decode k_X2_canGiveUp.2.1 55 = .ok (.ireturn, 1) := by decide +kernel
theorem dX2_giveUp_0 : decode k_X2_giveUp.2.1 0 = .ok (.aload_n 0, 1) := by decide +kernel
theorem dX2_giveUp_1 : decode k_X2_giveUp.2.1 1 = .ok (.iload_n 1, 1) := by decide +kernel
theorem dX2_giveUp_2 : decode k_X2_giveUp.2.1 2 = .ok (.invokevirtual 27, 3) := by decide +kernel
theorem dX2_giveUp_5 : decode k_X2_giveUp.2.1 5 = .ok (.astore_n 2, 1) := by decide +kernel
theorem dX2_giveUp_6 : decode k_X2_giveUp.2.1 6 = .ok (.aload_n 0, 1) := by decide +kernel
theorem dX2_giveUp_7 : decode k_X2_giveUp.2.1 7 = .ok (.getfield 14, 3) := by decide +kernel
theorem dX2_giveUp_10 : decode k_X2_giveUp.2.1 10 = .ok (.iload_n 1, 1) := by decide +kernel
theorem dX2_giveUp_11 : decode k_X2_giveUp.2.1 11 = .ok (.aload_n 2, 1) := by decide +kernel
theorem dX2_giveUp_12 : decode k_X2_giveUp.2.1 12 = .ok (.invokevirtual 74, 3) := by decide +kernel
theorem dX2_giveUp_15 : decode k_X2_giveUp.2.1 15 = .ok (.iconst 0, 1) := by decide +kernel
theorem dX2_giveUp_16 : decode k_X2_giveUp.2.1 16 = .ok (.istore_n 3, 1) := by decide +kernel
theorem dX2_giveUp_17 : decode k_X2_giveUp.2.1 17 = .ok (.iload_n 3, 1) := by decide +kernel
theorem dX2_giveUp_18 : decode k_X2_giveUp.2.1 18 = .ok (.bipush 60, 2) := by decide +kernel
theorem dX2_giveUp_20 : decode k_X2_giveUp.2.1 20 = .ok (.if_icmp .ge 20, 3) := by decide +kernel
theorem dX2_giveUp_23 : decode k_X2_giveUp.2.1 23 = .ok (.aload_n 0, 1) := by decide +kernel
theorem dX2_giveUp_24 : decode k_X2_giveUp.2.1 24 = .ok (.getfield 20, 3) := by decide +kernel
theorem dX2_giveUp_27 : decode k_X2_giveUp.2.1 27 = .ok (.iload_n 3, 1) := by decide +kernel
theorem dX2_giveUp_28 : decode k_X2_giveUp.2.1 28 = .ok (.aaload, 1) := by decide +kernel
theorem dX2_giveUp_29 : decode k_X2_giveUp.2.1 29 = .ok (.iload_n 1, 1) := by decide +kernel
theorem dX2_giveUp_30 : decode k_X2_giveUp.2.1 30 = .ok (.aload_n 2, 1) := by decide +kernel
theorem dX2_giveUp_31 : decode k_X2_giveUp.2.1 31 = .ok (.invokevirtual 74, 3) := by decide +kernel
theorem dX2_giveUp_34 : decode k_X2_giveUp.2.1 34 = .ok (.iinc 3 1, 3) := by decide +kernel
theorem dX2_giveUp_37 : decode k_X2_giveUp.2.1 37 = .ok (.goto (-20), 3) := by decide +kernel
theorem dX2_giveUp_40 : decode k_X2_giveUp.2.1 40 = .ok (.aload_n 2, 1) := by decide +kernel
theorem dX2_giveUp_41 : decode k_X2_giveUp.2.1 41 = .ok (.invokevirtual 42, 3) := by decide +kernel
theorem dX2_giveUp_44 : decode k_X2_giveUp.2.1 44 = .ok (.return_, 1) := by decide +kernel
theorem dX2_leastIdle_0 : decode k_X2_leastIdle.2.1 0 = .ok (.bipush 26, 2) := by decide +kernel
theorem dX2_leastIdle_2 : decode k_X2_leastIdle.2.1 2 = .ok (.istore_n 1, 1) := by decide +kernel
theorem dX2_leastIdle_3 : decode k_X2_leastIdle.2.1 3 = .ok (.iload_n 1, 1) := by decide +kernel
theorem dX2_leastIdle_4 : decode k_X2_leastIdle.2.1 4 = .ok (.bipush 86, 2) := by decide +kernel
theorem dX2_leastIdle_6 : decode k_X2_leastIdle.2.1 6 = .ok (.if_icmp .ge 42, 3) := by decide +kernel
theorem dX2_leastIdle_9 : decode k_X2_leastIdle.2.1 9 = .ok (.aload_n 0, 1) := by decide +kernel
theorem dX2_leastIdle_10 : decode k_X2_leastIdle.2.1 10 = .ok (.iload_n 1, 1) := by decide +kernel
theorem dX2_leastIdle_11 : decode k_X2_leastIdle.2.1 11 = .ok (.invokevirtual 39, 3) := by decide +kernel
theorem dX2_leastIdle_14 : decode k_X2_leastIdle.2.1 14 = .ok (.ifCond .eq 28, 3) := by decide +kernel
theorem dX2_leastIdle_17 : decode k_X2_leastIdle.2.1 17 = .ok (.aload_n 0, 1) := by decide +kernel
theorem dX2_leastIdle_18 : decode k_X2_leastIdle.2.1 18 = .ok (.iload_n 1, 1) := by decide +kernel
theorem dX2_leastIdle_19 : decode k_X2_leastIdle.2.1 19 = .ok (.invokevirtual 78, 3) := by decide +kernel
theorem dX2_leastIdle_22 : decode k_X2_leastIdle.2.1 22 = .ok (.istore_n 2, 1) := by decide +kernel
theorem dX2_leastIdle_23 : decode k_X2_leastIdle.2.1 23 = .ok (.iload_n 2, 1) := by decide +kernel
theorem dX2_leastIdle_24 : decode k_X2_leastIdle.2.1 24 = .ok (.ifCond .eq 16, 3) := by decide +kernel
theorem dX2_leastIdle_27 : decode k_X2_leastIdle.2.1 27 = .ok (.iload_n 2, 1) := by decide +kernel
theorem dX2_leastIdle_28 : decode k_X2_leastIdle.2.1 28 = .ok (.iconst 1, 1) := by decide +kernel
theorem dX2_leastIdle_29 : decode k_X2_leastIdle.2.1 29 = .ok (.if_icmp .ne 13, 3) := by decide +kernel
theorem dX2_leastIdle_32 : decode k_X2_leastIdle.2.1 32 = .ok (.aload_n 0, 1) := by decide +kernel
theorem dX2_leastIdle_33 : decode k_X2_leastIdle.2.1 33 = .ok (.iload_n 1, 1) := by decide +kernel
theorem dX2_leastIdle_34 : decode k_X2_leastIdle.2.1 34 = .ok (.invokevirtual 81, 3) := by decide +kernel
theorem dX2_leastIdle_37 : decode k_X2_leastIdle.2.1 37 = .ok (.ifCond .eq 5, 3) := by decide +kernel
theorem dX2_leastIdle_40 : decode k_X2_leastIdle.2.1 40 = .ok (.iload_n 1, 1) := by decide +kernel
theorem dX2_leastIdle_41 : decode k_X2_leastIdle.2.1 41 = .ok (.ireturn, 1) := by decide +kernel
theorem dX2_leastIdle_42 : decode k_X2_leastIdle.2.1 42 = .ok (.iinc 1 1, 3) := by decide +kernel
theorem dX2_leastIdle_45 : decode k_X2_leastIdle.2.1 45 = .ok (.goto (-42), 3) := by decide +kernel
theorem dX2_leastIdle_48 : decode k_X2_leastIdle.2.1 48 = .ok (.iconst (-1), 1) := by decide +kernel
theorem dX2_leastIdle_49 : decode k_X2_leastIdle.2.1 49 = .ok (.ireturn, 1) := by decide +kernel
theorem dX2_open_0 : decode k_X2_open.2.1 0 = .ok (.iconst 0, 1) := by decide +kernel
theorem dX2_open_1 : decode k_X2_open.2.1 1 = .ok (.istore_n 3, 1) := by decide +kernel
theorem dX2_open_2 : decode k_X2_open.2.1 2 = .ok (.iconst 0, 1) := by decide +kernel
theorem dX2_open_3 : decode k_X2_open.2.1 3 = .ok (.istore 4, 2) := by decide +kernel
theorem dX2_open_5 : decode k_X2_open.2.1 5 = .ok (.iconst 0, 1) := by decide +kernel
theorem dX2_open_6 : decode k_X2_open.2.1 6 = .ok (.istore 5, 2) := by decide +kernel
theorem dX2_open_8 : decode k_X2_open.2.1 8 = .ok (.iload 5, 2) := by decide +kernel
theorem dX2_open_10 : decode k_X2_open.2.1 10 = .ok (.bipush 60, 2) := by decide +kernel
theorem dX2_open_12 : decode k_X2_open.2.1 12 = .ok (.if_icmp .gt 101, 3) := by decide +kernel
theorem dX2_open_15 : decode k_X2_open.2.1 15 = .ok (.iload_n 3, 1) := by decide +kernel
theorem dX2_open_16 : decode k_X2_open.2.1 16 = .ok (.aload_n 0, 1) := by decide +kernel
theorem dX2_open_17 : decode k_X2_open.2.1 17 = .ok (.getfield 14, 3) := by decide +kernel
theorem dX2_open_20 : decode k_X2_open.2.1 20 = .ok (.invokevirtual 31, 3) := by decide +kernel
theorem dX2_open_23 : decode k_X2_open.2.1 23 = .ok (.if_icmp .ge 45, 3) := by decide +kernel
theorem dX2_open_26 : decode k_X2_open.2.1 26 = .ok (.iload 4, 2) := by decide +kernel
theorem dX2_open_28 : decode k_X2_open.2.1 28 = .ok (.aload_n 2, 1) := by decide +kernel
theorem dX2_open_29 : decode k_X2_open.2.1 29 = .ok (.aload_n 0, 1) := by decide +kernel
theorem dX2_open_30 : decode k_X2_open.2.1 30 = .ok (.getfield 14, 3) := by decide +kernel
theorem dX2_open_33 : decode k_X2_open.2.1 33 = .ok (.iload_n 3, 1) := by decide +kernel
theorem dX2_open_34 : decode k_X2_open.2.1 34 = .ok (.invokevirtual 84, 3) := by decide +kernel
theorem dX2_open_37 : decode k_X2_open.2.1 37 = .ok (.invokevirtual 87, 3) := by decide +kernel
theorem dX2_open_40 : decode k_X2_open.2.1 40 = .ok (.iadd, 1) := by decide +kernel
theorem dX2_open_41 : decode k_X2_open.2.1 41 = .ok (.iload_n 1, 1) := by decide +kernel
theorem dX2_open_42 : decode k_X2_open.2.1 42 = .ok (.if_icmp .gt 26, 3) := by decide +kernel
theorem dX2_open_45 : decode k_X2_open.2.1 45 = .ok (.iload 4, 2) := by decide +kernel
theorem dX2_open_47 : decode k_X2_open.2.1 47 = .ok (.aload_n 2, 1) := by decide +kernel
theorem dX2_open_48 : decode k_X2_open.2.1 48 = .ok (.aload_n 0, 1) := by decide +kernel
theorem dX2_open_49 : decode k_X2_open.2.1 49 = .ok (.getfield 14, 3) := by decide +kernel
theorem dX2_open_52 : decode k_X2_open.2.1 52 = .ok (.iload_n 3, 1) := by decide +kernel
theorem dX2_open_53 : decode k_X2_open.2.1 53 = .ok (.invokevirtual 84, 3) := by decide +kernel
theorem dX2_open_56 : decode k_X2_open.2.1 56 = .ok (.invokevirtual 87, 3) := by decide +kernel
theorem dX2_open_59 : decode k_X2_open.2.1 59 = .ok (.iadd, 1) := by decide +kernel
theorem dX2_open_60 : decode k_X2_open.2.1 60 = .ok (.istore 4, 2) := by decide +kernel
theorem dX2_open_62 : decode k_X2_open.2.1 62 = .ok (.iinc 3 1, 3) := by decide +kernel
theorem dX2_open_65 : decode k_X2_open.2.1 65 = .ok (.goto (-50), 3) := by decide +kernel
theorem dX2_open_68 : decode k_X2_open.2.1 68 = .ok (.iload 4, 2) := by decide +kernel
theorem dX2_open_70 : decode k_X2_open.2.1 70 = .ok (.iload_n 1, 1) := by decide +kernel
theorem dX2_open_71 : decode k_X2_open.2.1 71 = .ok (.if_icmp .eq 14, 3) := by decide +kernel
theorem dX2_open_74 : decode k_X2_open.2.1 74 = .ok (.iload_n 3, 1) := by decide +kernel
theorem dX2_open_75 : decode k_X2_open.2.1 75 = .ok (.aload_n 0, 1) := by decide +kernel
theorem dX2_open_76 : decode k_X2_open.2.1 76 = .ok (.getfield 14, 3) := by decide +kernel
theorem dX2_open_79 : decode k_X2_open.2.1 79 = .ok (.invokevirtual 31, 3) := by decide +kernel
theorem dX2_open_82 : decode k_X2_open.2.1 82 = .ok (.if_icmp .lt 5, 3) := by decide +kernel
theorem dX2_open_85 : decode k_X2_open.2.1 85 = .ok (.iload_n 3, 1) := by decide +kernel
theorem dX2_open_86 : decode k_X2_open.2.1 86 = .ok (.ireturn, 1) := by decide +kernel
theorem dX2_open_87 : decode k_X2_open.2.1 87 = .ok (.aload_n 0, 1) := by decide +kernel
theorem dX2_open_88 : decode k_X2_open.2.1 88 = .ok (.getfield 14, 3) := by decide +kernel
theorem dX2_open_91 : decode k_X2_open.2.1 91 = .ok (.iload_n 3, 1) := by decide +kernel
theorem dX2_open_92 : decode k_X2_open.2.1 92 = .ok (.aload_n 0, 1) := by decide +kernel
theorem dX2_open_93 : decode k_X2_open.2.1 93 = .ok (.aload_n 0, 1) := by decide +kernel
theorem dX2_open_94 : decode k_X2_open.2.1 94 = .ok (.getfield 14, 3) := by decide +kernel
theorem dX2_open_97 : decode k_X2_open.2.1 97 = .ok (.iload_n 3, 1) := by decide +kernel
theorem dX2_open_98 : decode k_X2_open.2.1 98 = .ok (.invokevirtual 84, 3) := by decide +kernel
theorem dX2_open_101 : decode k_X2_open.2.1 101 = .ok (.invokevirtual 27, 3) := by decide +kernel
theorem dX2_open_104 : decode k_X2_open.2.1 104 = .ok (.invokevirtual 92, 3) := by decide +kernel
theorem dX2_open_107 : decode k_X2_open.2.1 107 = .ok (.iinc 5 1, 3) := by decide +kernel
theorem dX2_open_110 : decode k_X2_open.2.1 110 = .ok (.goto (-102), 3) := by decide +kernel
theorem dX2_open_113 : decode k_X2_open.2.1 113 = .ok (.iload_n 3, 1) := by decide +kernel
theorem dX2_open_114 : decode k_X2_open.2.1 114 = .ok (.ireturn, 1) := by decide +kernel
theorem dX3_init_0 : decode k_X3_init.2.1 0 = .ok (.aload_n 0, 1) := by decide +kernel
theorem dX3_init_1 : decode k_X3_init.2.1 1 = .ok (.invokespecial 3, 3) := by decide +kernel
theorem dX3_init_4 : decode k_X3_init.2.1 4 = .ok (.aload_n 0, 1) := by decide +kernel
theorem dX3_init_5 : decode k_X3_init.2.1 5 = .ok (.sipush 7396, 3) := by decide +kernel
theorem dX3_init_8 : decode k_X3_init.2.1 8 = .ok (.newarray .int, 2) := by decide +kernel
theorem dX3_init_10 : decode k_X3_init.2.1 10 = .ok (.putfield 9, 3) := by decide +kernel
theorem dX3_init_13 : decode k_X3_init.2.1 13 = .ok (.aload_n 0, 1) := by decide +kernel
theorem dX3_init_14 : decode k_X3_init.2.1 14 = .ok (.new 15, 3) := by decide +kernel
theorem dX3_init_17 : decode k_X3_init.2.1 17 = .ok (.dup, 1) := by decide +kernel
theorem dX3_init_18 : decode k_X3_init.2.1 18 = .ok (.sipush 240, 3) := by decide +kernel
theorem dX3_init_21 : decode k_X3_init.2.1 21 = .ok (.invokespecial 17, 3) := by decide +kernel
theorem dX3_init_24 : decode k_X3_init.2.1 24 = .ok (.putfield 20, 3) := by decide +kernel
theorem dX3_init_27 : decode k_X3_init.2.1 27 = .ok (.return_, 1) := by decide +kernel
theorem dX3_pairOf_0 : decode k_X3_pairOf.2.1 0 = .ok (.iload_n 0, 1) := by decide +kernel
theorem dX3_pairOf_1 : decode k_X3_pairOf.2.1 1 = .ok (.ifCond .lt 23, 3) := by decide +kernel
theorem dX3_pairOf_4 : decode k_X3_pairOf.2.1 4 = .ok (.iload_n 0, 1) := by decide +kernel
theorem dX3_pairOf_5 : decode k_X3_pairOf.2.1 5 = .ok (.bipush 86, 2) := by decide +kernel
theorem dX3_pairOf_7 : decode k_X3_pairOf.2.1 7 = .ok (.if_icmp .ge 17, 3) := by decide +kernel
theorem dX3_pairOf_10 : decode k_X3_pairOf.2.1 10 = .ok (.iload_n 1, 1) := by decide +kernel
theorem dX3_pairOf_11 : decode k_X3_pairOf.2.1 11 = .ok (.ifCond .lt 13, 3) := by decide +kernel
theorem dX3_pairOf_14 : decode k_X3_pairOf.2.1 14 = .ok (.iload_n 1, 1) := by decide +kernel
theorem dX3_pairOf_15 : decode k_X3_pairOf.2.1 15 = .ok (.bipush 86, 2) := by decide +kernel
theorem dX3_pairOf_17 : decode k_X3_pairOf.2.1 17 = .ok (.if_icmp .ge 7, 3) := by decide +kernel
theorem dX3_pairOf_20 : decode k_X3_pairOf.2.1 20 = .ok (.iconst 1, 1) := by decide +kernel
theorem dX3_pairOf_21 : decode k_X3_pairOf.2.1 21 = .ok (.goto 4, 3) := by decide +kernel
theorem dX3_pairOf_24 : decode k_X3_pairOf.2.1 24 = .ok (.iconst 0, 1) := by decide +kernel
theorem dX3_pairOf_25 : decode k_X3_pairOf.2.1 25 = .ok (.istore_n 2, 1) := by decide +kernel
theorem dX3_pairOf_26 : decode k_X3_pairOf.2.1 26 = .ok (.iload_n 2, 1) := by decide +kernel
theorem dX3_pairOf_27 : decode k_X3_pairOf.2.1 27 = .ok (.ifCond .eq 12, 3) := by decide +kernel
theorem dX3_pairOf_30 : decode k_X3_pairOf.2.1 30 = .ok (.iload_n 0, 1) := by decide +kernel
theorem dX3_pairOf_31 : decode k_X3_pairOf.2.1 31 = .ok (.bipush 86, 2) := by decide +kernel
theorem dX3_pairOf_33 : decode k_X3_pairOf.2.1 33 = .ok (.imul, 1) := by decide +kernel
theorem dX3_pairOf_34 : decode k_X3_pairOf.2.1 34 = .ok (.iload_n 1, 1) := by decide +kernel
theorem dX3_pairOf_35 : decode k_X3_pairOf.2.1 35 = .ok (.iadd, 1) := by decide +kernel
theorem dX3_pairOf_36 : decode k_X3_pairOf.2.1 36 = .ok (.goto 4, 3) := by decide +kernel
theorem dX3_pairOf_39 : decode k_X3_pairOf.2.1 39 = .ok (.iconst (-1), 1) := by decide +kernel
theorem dX3_pairOf_40 : decode k_X3_pairOf.2.1 40 = .ok (.ireturn, 1) := by decide +kernel
theorem dX3_leftOf_0 : decode k_X3_leftOf.2.1 0 = .ok (.iload_n 0, 1) := by decide +kernel
theorem dX3_leftOf_1 : decode k_X3_leftOf.2.1 1 = .ok (.bipush 86, 2) := by decide +kernel
theorem dX3_leftOf_3 : decode k_X3_leftOf.2.1 3 = .ok (.idiv, 1) := by decide +kernel
theorem dX3_leftOf_4 : decode k_X3_leftOf.2.1 4 = .ok (.ireturn, 1) := by decide +kernel
theorem dX3_rightOf_0 : decode k_X3_rightOf.2.1 0 = .ok (.iload_n 0, 1) := by decide +kernel
theorem dX3_rightOf_1 : decode k_X3_rightOf.2.1 1 = .ok (.bipush 86, 2) := by decide +kernel
theorem dX3_rightOf_3 : decode k_X3_rightOf.2.1 3 = .ok (.irem, 1) := by decide +kernel
theorem dX3_rightOf_4 : decode k_X3_rightOf.2.1 4 = .ok (.ireturn, 1) := by decide +kernel
theorem dX3_tally_0 : decode k_X3_tally.2.1 0 = .ok (.aload_n 0, 1) := by decide +kernel
theorem dX3_tally_1 : decode k_X3_tally.2.1 1 = .ok (.invokevirtual 24, 3) := by decide +kernel
theorem dX3_tally_4 : decode k_X3_tally.2.1 4 = .ok (.iconst (-1), 1) := by decide +kernel
theorem dX3_tally_5 : decode k_X3_tally.2.1 5 = .ok (.istore_n 2, 1) := by decide +kernel
theorem dX3_tally_6 : decode k_X3_tally.2.1 6 = .ok (.iconst 0, 1) := by decide +kernel
theorem dX3_tally_7 : decode k_X3_tally.2.1 7 = .ok (.istore_n 3, 1) := by decide +kernel
theorem dX3_tally_8 : decode k_X3_tally.2.1 8 = .ok (.iload_n 3, 1) := by decide +kernel
theorem dX3_tally_9 : decode k_X3_tally.2.1 9 = .ok (.iconst 1, 1) := by decide +kernel
theorem dX3_tally_10 : decode k_X3_tally.2.1 10 = .ok (.iadd, 1) := by decide +kernel
theorem dX3_tally_11 : decode k_X3_tally.2.1 11 = .ok (.aload_n 1, 1) := by decide +kernel
theorem dX3_tally_12 : decode k_X3_tally.2.1 12 = .ok (.invokevirtual 27, 3) := by decide +kernel
theorem dX3_tally_15 : decode k_X3_tally.2.1 15 = .ok (.if_icmp .ge 66, 3) := by decide +kernel
theorem dX3_tally_18 : decode k_X3_tally.2.1 18 = .ok (.aload_n 1, 1) := by decide +kernel
theorem dX3_tally_19 : decode k_X3_tally.2.1 19 = .ok (.iload_n 3, 1) := by decide +kernel
theorem dX3_tally_20 : decode k_X3_tally.2.1 20 = .ok (.invokevirtual 31, 3) := by decide +kernel
theorem dX3_tally_23 : decode k_X3_tally.2.1 23 = .ok (.istore 4, 2) := by decide +kernel
theorem dX3_tally_25 : decode k_X3_tally.2.1 25 = .ok (.aload_n 1, 1) := by decide +kernel
theorem dX3_tally_26 : decode k_X3_tally.2.1 26 = .ok (.iload_n 3, 1) := by decide +kernel
theorem dX3_tally_27 : decode k_X3_tally.2.1 27 = .ok (.iconst 1, 1) := by decide +kernel
theorem dX3_tally_28 : decode k_X3_tally.2.1 28 = .ok (.iadd, 1) := by decide +kernel
theorem dX3_tally_29 : decode k_X3_tally.2.1 29 = .ok (.invokevirtual 31, 3) := by decide +kernel
theorem dX3_tally_32 : decode k_X3_tally.2.1 32 = .ok (.istore 5, 2) := by decide +kernel
theorem dX3_tally_34 : decode k_X3_tally.2.1 34 = .ok (.iload 4, 2) := by decide +kernel
theorem dX3_tally_36 : decode k_X3_tally.2.1 36 = .ok (.iload 5, 2) := by decide +kernel
theorem dX3_tally_38 : decode k_X3_tally.2.1 38 = .ok (.if_icmp .eq 17, 3) := by decide +kernel
theorem dX3_tally_41 : decode k_X3_tally.2.1 41 = .ok (.aload_n 0, 1) := by decide +kernel
theorem dX3_tally_42 : decode k_X3_tally.2.1 42 = .ok (.iload 4, 2) := by decide +kernel
theorem dX3_tally_44 : decode k_X3_tally.2.1 44 = .ok (.iload 5, 2) := by decide +kernel
theorem dX3_tally_46 : decode k_X3_tally.2.1 46 = .ok (.invokestatic 35, 3) := by decide +kernel
theorem dX3_tally_49 : decode k_X3_tally.2.1 49 = .ok (.invokevirtual 39, 3) := by decide +kernel
theorem dX3_tally_52 : decode k_X3_tally.2.1 52 = .ok (.goto 23, 3) := by decide +kernel
theorem dX3_tally_55 : decode k_X3_tally.2.1 55 = .ok (.iload_n 2, 1) := by decide +kernel
theorem dX3_tally_56 : decode k_X3_tally.2.1 56 = .ok (.iload_n 3, 1) := by decide +kernel
theorem dX3_tally_57 : decode k_X3_tally.2.1 57 = .ok (.if_icmp .eq 18, 3) := by decide +kernel
theorem dX3_tally_60 : decode k_X3_tally.2.1 60 = .ok (.aload_n 0, 1) := by decide +kernel
theorem dX3_tally_61 : decode k_X3_tally.2.1 61 = .ok (.iload 4, 2) := by decide +kernel
theorem dX3_tally_63 : decode k_X3_tally.2.1 63 = .ok (.iload 5, 2) := by decide +kernel
theorem dX3_tally_65 : decode k_X3_tally.2.1 65 = .ok (.invokestatic 35, 3) := by decide +kernel
theorem dX3_tally_68 : decode k_X3_tally.2.1 68 = .ok (.invokevirtual 39, 3) := by decide +kernel
theorem dX3_tally_71 : decode k_X3_tally.2.1 71 = .ok (.iload_n 3, 1) := by decide +kernel
theorem dX3_tally_72 : decode k_X3_tally.2.1 72 = .ok (.iconst 1, 1) := by decide +kernel
theorem dX3_tally_73 : decode k_X3_tally.2.1 73 = .ok (.iadd, 1) := by decide +kernel
theorem dX3_tally_74 : decode k_X3_tally.2.1 74 = .ok (.istore_n 2, 1) := by decide +kernel
theorem dX3_tally_75 : decode k_X3_tally.2.1 75 = .ok (.iinc 3 1, 3) := by decide +kernel
theorem dX3_tally_78 : decode k_X3_tally.2.1 78 = .ok (.goto (-70), 3) := by decide +kernel
theorem dX3_tally_81 : decode k_X3_tally.2.1 81 = .ok (.return_, 1) := by decide +kernel
theorem dX3_kinds_0 : decode k_X3_kinds.2.1 0 = .ok (.aload_n 0, 1) := by decide +kernel
theorem dX3_kinds_1 : decode k_X3_kinds.2.1 1 = .ok (.getfield 20, 3) := by decide +kernel
theorem dX3_kinds_4 : decode k_X3_kinds.2.1 4 = .ok (.invokevirtual 27, 3) := by decide +kernel
theorem dX3_kinds_7 : decode k_X3_kinds.2.1 7 = .ok (.ireturn, 1) := by decide +kernel
theorem dX3_pairAt_0 : decode k_X3_pairAt.2.1 0 = .ok (.aload_n 0, 1) := by decide +kernel
theorem dX3_pairAt_1 : decode k_X3_pairAt.2.1 1 = .ok (.getfield 20, 3) := by decide +kernel
theorem dX3_pairAt_4 : decode k_X3_pairAt.2.1 4 = .ok (.iload_n 1, 1) := by decide +kernel
theorem dX3_pairAt_5 : decode k_X3_pairAt.2.1 5 = .ok (.invokevirtual 31, 3) := by decide +kernel
theorem dX3_pairAt_8 : decode k_X3_pairAt.2.1 8 = .ok (.ireturn, 1) := by decide +kernel
theorem dX3_countOf_0 : decode k_X3_countOf.2.1 0 = .ok (.aload_n 0, 1) := by decide +kernel
theorem dX3_countOf_1 : decode k_X3_countOf.2.1 1 = .ok (.iload_n 1, 1) := by decide +kernel
theorem dX3_countOf_2 : decode k_X3_countOf.2.1 2 = .ok (.iload_n 2, 1) := by decide +kernel
theorem dX3_countOf_3 : decode k_X3_countOf.2.1 3 = .ok (.invokestatic 35, 3) := by decide +kernel
theorem dX3_countOf_6 : decode k_X3_countOf.2.1 6 = .ok (.invokevirtual 42, 3) := by decide +kernel
theorem dX3_countOf_9 : decode k_X3_countOf.2.1 9 = .ok (.ireturn, 1) := by decide +kernel
theorem dX3_countOfPair_0 : decode k_X3_countOfPair.2.1 0 = .ok (.iload_n 1, 1) := by decide +kernel
theorem dX3_countOfPair_1 : decode k_X3_countOfPair.2.1 1 = .ok (.ifCond .lt 21, 3) := by decide +kernel
theorem dX3_countOfPair_4 : decode k_X3_countOfPair.2.1 4 = .ok (.iload_n 1, 1) := by decide +kernel
theorem dX3_countOfPair_5 : decode k_X3_countOfPair.2.1 5 = .ok (.aload_n 0, 1) := by decide +kernel
theorem dX3_countOfPair_6 : decode k_X3_countOfPair.2.1 6 = .ok (.getfield 9, 3) := by decide +kernel
theorem dX3_countOfPair_9 : decode k_X3_countOfPair.2.1 9 = .ok (.arraylength, 1) := by decide +kernel
theorem dX3_countOfPair_10 : decode k_X3_countOfPair.2.1 10 = .ok (.if_icmp .ge 12, 3) := by decide +kernel
theorem dX3_countOfPair_13 : decode k_X3_countOfPair.2.1 13 = .ok (.aload_n 0, 1) := by decide +kernel
theorem dX3_countOfPair_14 : decode k_X3_countOfPair.2.1 14 = .ok (.getfield 9, 3) := by decide +kernel
theorem dX3_countOfPair_17 : decode k_X3_countOfPair.2.1 17 = .ok (.iload_n 1, 1) := by decide +kernel
theorem dX3_countOfPair_18 : decode k_X3_countOfPair.2.1 18 = .ok (.iaload, 1) := by decide +kernel
theorem dX3_countOfPair_19 : decode k_X3_countOfPair.2.1 19 = .ok (.goto 4, 3) := by decide +kernel
theorem dX3_countOfPair_22 : decode k_X3_countOfPair.2.1 22 = .ok (.iconst 0, 1) := by decide +kernel
theorem dX3_countOfPair_23 : decode k_X3_countOfPair.2.1 23 = .ok (.ireturn, 1) := by decide +kernel
theorem dX3_ranked_0 : decode k_X3_ranked.2.1 0 = .ok (.iload_n 1, 1) := by decide +kernel
theorem dX3_ranked_1 : decode k_X3_ranked.2.1 1 = .ok (.ifCond .lt 14, 3) := by decide +kernel
theorem dX3_ranked_4 : decode k_X3_ranked.2.1 4 = .ok (.iload_n 1, 1) := by decide +kernel
theorem dX3_ranked_5 : decode k_X3_ranked.2.1 5 = .ok (.aload_n 0, 1) := by decide +kernel
theorem dX3_ranked_6 : decode k_X3_ranked.2.1 6 = .ok (.getfield 20, 3) := by decide +kernel
theorem dX3_ranked_9 : decode k_X3_ranked.2.1 9 = .ok (.invokevirtual 27, 3) := by decide +kernel
theorem dX3_ranked_12 : decode k_X3_ranked.2.1 12 = .ok (.if_icmp .lt 5, 3) := by decide +kernel
theorem dX3_ranked_15 : decode k_X3_ranked.2.1 15 = .ok (.iconst (-1), 1) := by decide +kernel
theorem dX3_ranked_16 : decode k_X3_ranked.2.1 16 = .ok (.ireturn, 1) := by decide +kernel
theorem dX3_ranked_17 : decode k_X3_ranked.2.1 17 = .ok (.iconst (-1), 1) := by decide +kernel
theorem dX3_ranked_18 : decode k_X3_ranked.2.1 18 = .ok (.istore_n 2, 1) := by decide +kernel
theorem dX3_ranked_19 : decode k_X3_ranked.2.1 19 = .ok (.iconst 0, 1) := by decide +kernel
theorem dX3_ranked_20 : decode k_X3_ranked.2.1 20 = .ok (.istore_n 3, 1) := by decide +kernel
theorem dX3_ranked_21 : decode k_X3_ranked.2.1 21 = .ok (.iload_n 3, 1) := by decide +kernel
theorem dX3_ranked_22 : decode k_X3_ranked.2.1 22 = .ok (.iload_n 1, 1) := by decide +kernel
theorem dX3_ranked_23 : decode k_X3_ranked.2.1 23 = .ok (.if_icmp .gt 22, 3) := by decide +kernel
theorem dX3_ranked_26 : decode k_X3_ranked.2.1 26 = .ok (.aload_n 0, 1) := by decide +kernel
theorem dX3_ranked_27 : decode k_X3_ranked.2.1 27 = .ok (.iload_n 2, 1) := by decide +kernel
theorem dX3_ranked_28 : decode k_X3_ranked.2.1 28 = .ok (.invokevirtual 45, 3) := by decide +kernel
theorem dX3_ranked_31 : decode k_X3_ranked.2.1 31 = .ok (.istore_n 2, 1) := by decide +kernel
theorem dX3_ranked_32 : decode k_X3_ranked.2.1 32 = .ok (.iload_n 2, 1) := by decide +kernel
theorem dX3_ranked_33 : decode k_X3_ranked.2.1 33 = .ok (.iconst (-1), 1) := by decide +kernel
theorem dX3_ranked_34 : decode k_X3_ranked.2.1 34 = .ok (.if_icmp .ne 5, 3) := by decide +kernel
theorem dX3_ranked_37 : decode k_X3_ranked.2.1 37 = .ok (.iconst (-1), 1) := by decide +kernel
theorem dX3_ranked_38 : decode k_X3_ranked.2.1 38 = .ok (.ireturn, 1) := by decide +kernel
theorem dX3_ranked_39 : decode k_X3_ranked.2.1 39 = .ok (.iinc 3 1, 3) := by decide +kernel
theorem dX3_ranked_42 : decode k_X3_ranked.2.1 42 = .ok (.goto (-21), 3) := by decide +kernel
theorem dX3_ranked_45 : decode k_X3_ranked.2.1 45 = .ok (.iload_n 2, 1) := by decide +kernel
theorem dX3_ranked_46 : decode k_X3_ranked.2.1 46 = .ok (.ireturn, 1) := by decide +kernel
theorem dX3_nextBehind_0 : decode k_X3_nextBehind.2.1 0 = .ok (.iconst (-1), 1) := by decide +kernel
theorem dX3_nextBehind_1 : decode k_X3_nextBehind.2.1 1 = .ok (.istore_n 2, 1) := by decide +kernel
theorem dX3_nextBehind_2 : decode k_X3_nextBehind.2.1 2 = .ok (.iconst 0, 1) := by decide +kernel
theorem dX3_nextBehind_3 : decode k_X3_nextBehind.2.1 3 = .ok (.istore_n 3, 1) := by decide +kernel
theorem dX3_nextBehind_4 : decode k_X3_nextBehind.2.1 4 = .ok (.iload_n 3, 1) := by decide +kernel
theorem dX3_nextBehind_5 : decode k_X3_nextBehind.2.1 5 = .ok (.aload_n 0, 1) := by decide +kernel
theorem dX3_nextBehind_6 : decode k_X3_nextBehind.2.1 6 = .ok (.getfield 20, 3) := by decide +kernel
theorem dX3_nextBehind_9 : decode k_X3_nextBehind.2.1 9 = .ok (.invokevirtual 27, 3) := by decide +kernel
theorem dX3_nextBehind_12 : decode k_X3_nextBehind.2.1 12 = .ok (.if_icmp .ge 62, 3) := by decide +kernel
theorem dX3_nextBehind_15 : decode k_X3_nextBehind.2.1 15 = .ok (.aload_n 0, 1) := by decide +kernel
theorem dX3_nextBehind_16 : decode k_X3_nextBehind.2.1 16 = .ok (.getfield 20, 3) := by decide +kernel
theorem dX3_nextBehind_19 : decode k_X3_nextBehind.2.1 19 = .ok (.iload_n 3, 1) := by decide +kernel
theorem dX3_nextBehind_20 : decode k_X3_nextBehind.2.1 20 = .ok (.invokevirtual 31, 3) := by decide +kernel
theorem dX3_nextBehind_23 : decode k_X3_nextBehind.2.1 23 = .ok (.istore 4, 2) := by decide +kernel
theorem dX3_nextBehind_25 : decode k_X3_nextBehind.2.1 25 = .ok (.aload_n 0, 1) := by decide +kernel
theorem dX3_nextBehind_26 : decode k_X3_nextBehind.2.1 26 = .ok (.iload 4, 2) := by decide +kernel
theorem dX3_nextBehind_28 : decode k_X3_nextBehind.2.1 28 = .ok (.invokevirtual 42, 3) := by decide +kernel
theorem dX3_nextBehind_31 : decode k_X3_nextBehind.2.1 31 = .ok (.iconst 2, 1) := by decide +kernel
theorem dX3_nextBehind_32 : decode k_X3_nextBehind.2.1 32 = .ok (.if_icmp .lt 36, 3) := by decide +kernel
theorem dX3_nextBehind_35 : decode k_X3_nextBehind.2.1 35 = .ok (.iload_n 1, 1) := by decide +kernel
theorem dX3_nextBehind_36 : decode k_X3_nextBehind.2.1 36 = .ok (.iconst (-1), 1) := by decide +kernel
theorem dX3_nextBehind_37 : decode k_X3_nextBehind.2.1 37 = .ok (.if_icmp .eq 13, 3) := by decide +kernel
theorem dX3_nextBehind_40 : decode k_X3_nextBehind.2.1 40 = .ok (.aload_n 0, 1) := by decide +kernel
theorem dX3_nextBehind_41 : decode k_X3_nextBehind.2.1 41 = .ok (.iload_n 1, 1) := by decide +kernel
theorem dX3_nextBehind_42 : decode k_X3_nextBehind.2.1 42 = .ok (.iload 4, 2) := by decide +kernel
theorem dX3_nextBehind_44 : decode k_X3_nextBehind.2.1 44 = .ok (.invokevirtual 48, 3) := by decide +kernel
theorem dX3_nextBehind_47 : decode k_X3_nextBehind.2.1 47 = .ok (.ifCond .eq 21, 3) := by decide +kernel
theorem dX3_nextBehind_50 : decode k_X3_nextBehind.2.1 50 = .ok (.iload_n 2, 1) := by decide +kernel
theorem dX3_nextBehind_51 : decode k_X3_nextBehind.2.1 51 = .ok (.iconst (-1), 1) := by decide +kernel
theorem dX3_nextBehind_52 : decode k_X3_nextBehind.2.1 52 = .ok (.if_icmp .eq 13, 3) := by decide +kernel
theorem dX3_nextBehind_55 : decode k_X3_nextBehind.2.1 55 = .ok (.aload_n 0, 1) := by decide +kernel
theorem dX3_nextBehind_56 : decode k_X3_nextBehind.2.1 56 = .ok (.iload 4, 2) := by decide +kernel
theorem dX3_nextBehind_58 : decode k_X3_nextBehind.2.1 58 = .ok (.iload_n 2, 1) := by decide +kernel
theorem dX3_nextBehind_59 : decode k_X3_nextBehind.2.1 59 = .ok (.invokevirtual 48, 3) := by decide +kernel
theorem dX3_nextBehind_62 : decode k_X3_nextBehind.2.1 62 = .ok (.ifCond .eq 6, 3) := by decide +kernel
theorem dX3_nextBehind_65 : decode k_X3_nextBehind.2.1 65 = .ok (.iload 4, 2) := by decide +kernel
theorem dX3_nextBehind_67 : decode k_X3_nextBehind.2.1 67 = .ok (.istore_n 2, 1) := by decide +kernel
theorem dX3_nextBehind_68 : decode k_X3_nextBehind.2.1 68 = .ok (.iinc 3 1, 3) := by decide +kernel
theorem dX3_nextBehind_71 : decode k_X3_nextBehind.2.1 71 = .ok (.goto (-67), 3) := by decide +kernel
theorem dX3_nextBehind_74 : decode k_X3_nextBehind.2.1 74 = .ok (.iload_n 2, 1) := by decide +kernel
theorem dX3_nextBehind_75 : decode k_X3_nextBehind.2.1 75 = .ok (.ireturn, 1) := by decide +kernel
theorem dX3_isAhead_0 : decode k_X3_isAhead.2.1 0 = .ok (.aload_n 0, 1) := by decide +kernel
theorem dX3_isAhead_1 : decode k_X3_isAhead.2.1 1 = .ok (.iload_n 1, 1) := by decide +kernel
theorem dX3_isAhead_2 : decode k_X3_isAhead.2.1 2 = .ok (.invokevirtual 42, 3) := by decide +kernel
theorem dX3_isAhead_5 : decode k_X3_isAhead.2.1 5 = .ok (.aload_n 0, 1) := by decide +kernel
theorem dX3_isAhead_6 : decode k_X3_isAhead.2.1 6 = .ok (.iload_n 2, 1) := by decide +kernel
theorem dX3_isAhead_7 : decode k_X3_isAhead.2.1 7 = .ok (.invokevirtual 42, 3) := by decide +kernel
theorem dX3_isAhead_10 : decode k_X3_isAhead.2.1 10 = .ok (.isub, 1) := by decide +kernel
theorem dX3_isAhead_11 : decode k_X3_isAhead.2.1 11 = .ok (.istore_n 3, 1) := by decide +kernel
theorem dX3_isAhead_12 : decode k_X3_isAhead.2.1 12 = .ok (.iload_n 3, 1) := by decide +kernel
theorem dX3_isAhead_13 : decode k_X3_isAhead.2.1 13 = .ok (.ifCond .gt 12, 3) := by decide +kernel
theorem dX3_isAhead_16 : decode k_X3_isAhead.2.1 16 = .ok (.iload_n 3, 1) := by decide +kernel
theorem dX3_isAhead_17 : decode k_X3_isAhead.2.1 17 = .ok (.ifCond .ne 12, 3) := by decide +kernel
theorem dX3_isAhead_20 : decode k_X3_isAhead.2.1 20 = .ok (.iload_n 1, 1) := by decide +kernel
theorem dX3_isAhead_21 : decode k_X3_isAhead.2.1 21 = .ok (.iload_n 2, 1) := by decide +kernel
theorem dX3_isAhead_22 : decode k_X3_isAhead.2.1 22 = .ok (.if_icmp .ge 7, 3) := by decide +kernel
theorem dX3_isAhead_25 : decode k_X3_isAhead.2.1 25 = .ok (.iconst 1, 1) := by decide +kernel
theorem dX3_isAhead_26 : decode k_X3_isAhead.2.1 26 = .ok (.goto 4, 3) := by decide +kernel
theorem dX3_isAhead_29 : decode k_X3_isAhead.2.1 29 = .ok (.iconst 0, 1) := by decide +kernel
theorem dX3_isAhead_30 : decode k_X3_isAhead.2.1 30 = .ok (.ireturn, 1) := by decide +kernel
theorem dX3_addOne_0 : decode k_X3_addOne.2.1 0 = .ok (.iload_n 1, 1) := by decide +kernel
theorem dX3_addOne_1 : decode k_X3_addOne.2.1 1 = .ok (.ifCond .lt 12, 3) := by decide +kernel
theorem dX3_addOne_4 : decode k_X3_addOne.2.1 4 = .ok (.iload_n 1, 1) := by decide +kernel
theorem dX3_addOne_5 : decode k_X3_addOne.2.1 5 = .ok (.aload_n 0, 1) := by decide +kernel
theorem dX3_addOne_6 : decode k_X3_addOne.2.1 6 = .ok (.getfield 9, 3) := by decide +kernel
theorem dX3_addOne_9 : decode k_X3_addOne.2.1 9 = .ok (.arraylength, 1) := by decide +kernel
theorem dX3_addOne_10 : decode k_X3_addOne.2.1 10 = .ok (.if_icmp .lt 4, 3) := by decide +kernel
theorem dX3_addOne_13 : decode k_X3_addOne.2.1 13 = .ok (.return_, 1) := by decide +kernel
theorem dX3_addOne_14 : decode k_X3_addOne.2.1 14 = .ok (.aload_n 0, 1) := by decide +kernel
theorem dX3_addOne_15 : decode k_X3_addOne.2.1 15 = .ok (.getfield 9, 3) := by decide +kernel
theorem dX3_addOne_18 : decode k_X3_addOne.2.1 18 = .ok (.iload_n 1, 1) := by decide +kernel
theorem dX3_addOne_19 : decode k_X3_addOne.2.1 19 = .ok (.iaload, 1) := by decide +kernel
theorem dX3_addOne_20 : decode k_X3_addOne.2.1 20 = .ok (.ifCond .ne 11, 3) := by decide +kernel
theorem dX3_addOne_23 : decode k_X3_addOne.2.1 23 = .ok (.aload_n 0, 1) := by decide +kernel
theorem dX3_addOne_24 : decode k_X3_addOne.2.1 24 = .ok (.getfield 20, 3) := by decide +kernel
theorem dX3_addOne_27 : decode k_X3_addOne.2.1 27 = .ok (.iload_n 1, 1) := by decide +kernel
theorem dX3_addOne_28 : decode k_X3_addOne.2.1 28 = .ok (.invokevirtual 52, 3) := by decide +kernel
theorem dX3_addOne_31 : decode k_X3_addOne.2.1 31 = .ok (.aload_n 0, 1) := by decide +kernel
theorem dX3_addOne_32 : decode k_X3_addOne.2.1 32 = .ok (.getfield 9, 3) := by decide +kernel
theorem dX3_addOne_35 : decode k_X3_addOne.2.1 35 = .ok (.iload_n 1, 1) := by decide +kernel
theorem dX3_addOne_36 : decode k_X3_addOne.2.1 36 = .ok (.dup2, 1) := by decide +kernel
theorem dX3_addOne_37 : decode k_X3_addOne.2.1 37 = .ok (.iaload, 1) := by decide +kernel
theorem dX3_addOne_38 : decode k_X3_addOne.2.1 38 = .ok (.iconst 1, 1) := by decide +kernel
theorem dX3_addOne_39 : decode k_X3_addOne.2.1 39 = .ok (.iadd, 1) := by decide +kernel
theorem dX3_addOne_40 : decode k_X3_addOne.2.1 40 = .ok (.iastore, 1) := by decide +kernel
theorem dX3_addOne_41 : decode k_X3_addOne.2.1 41 = .ok (.return_, 1) := by decide +kernel
theorem dX3_forget_0 : decode k_X3_forget.2.1 0 = .ok (.iconst 0, 1) := by decide +kernel
theorem dX3_forget_1 : decode k_X3_forget.2.1 1 = .ok (.istore_n 1, 1) := by decide +kernel
theorem dX3_forget_2 : decode k_X3_forget.2.1 2 = .ok (.iload_n 1, 1) := by decide +kernel
theorem dX3_forget_3 : decode k_X3_forget.2.1 3 = .ok (.aload_n 0, 1) := by decide +kernel
theorem dX3_forget_4 : decode k_X3_forget.2.1 4 = .ok (.getfield 20, 3) := by decide +kernel
theorem dX3_forget_7 : decode k_X3_forget.2.1 7 = .ok (.invokevirtual 27, 3) := by decide +kernel
theorem dX3_forget_10 : decode k_X3_forget.2.1 10 = .ok (.if_icmp .ge 38, 3) := by decide +kernel
theorem dX3_forget_13 : decode k_X3_forget.2.1 13 = .ok (.aload_n 0, 1) := by decide +kernel
theorem dX3_forget_14 : decode k_X3_forget.2.1 14 = .ok (.getfield 20, 3) := by decide +kernel
theorem dX3_forget_17 : decode k_X3_forget.2.1 17 = .ok (.iload_n 1, 1) := by decide +kernel
theorem dX3_forget_18 : decode k_X3_forget.2.1 18 = .ok (.invokevirtual 31, 3) := by decide +kernel
theorem dX3_forget_21 : decode k_X3_forget.2.1 21 = .ok (.istore_n 2, 1) := by decide +kernel
theorem dX3_forget_22 : decode k_X3_forget.2.1 22 = .ok (.iload_n 2, 1) := by decide +kernel
theorem dX3_forget_23 : decode k_X3_forget.2.1 23 = .ok (.ifCond .lt 19, 3) := by decide +kernel
theorem dX3_forget_26 : decode k_X3_forget.2.1 26 = .ok (.iload_n 2, 1) := by decide +kernel
theorem dX3_forget_27 : decode k_X3_forget.2.1 27 = .ok (.aload_n 0, 1) := by decide +kernel
theorem dX3_forget_28 : decode k_X3_forget.2.1 28 = .ok (.getfield 9, 3) := by decide +kernel
theorem dX3_forget_31 : decode k_X3_forget.2.1 31 = .ok (.arraylength, 1) := by decide +kernel
theorem dX3_forget_32 : decode k_X3_forget.2.1 32 = .ok (.if_icmp .ge 10, 3) := by decide +kernel
theorem dX3_forget_35 : decode k_X3_forget.2.1 35 = .ok (.aload_n 0, 1) := by decide +kernel
theorem dX3_forget_36 : decode k_X3_forget.2.1 36 = .ok (.getfield 9, 3) := by decide +kernel
theorem dX3_forget_39 : decode k_X3_forget.2.1 39 = .ok (.iload_n 2, 1) := by decide +kernel
theorem dX3_forget_40 : decode k_X3_forget.2.1 40 = .ok (.iconst 0, 1) := by decide +kernel
theorem dX3_forget_41 : decode k_X3_forget.2.1 41 = .ok (.iastore, 1) := by decide +kernel
theorem dX3_forget_42 : decode k_X3_forget.2.1 42 = .ok (.iinc 1 1, 3) := by decide +kernel
theorem dX3_forget_45 : decode k_X3_forget.2.1 45 = .ok (.goto (-43), 3) := by decide +kernel
theorem dX3_forget_48 : decode k_X3_forget.2.1 48 = .ok (.aload_n 0, 1) := by decide +kernel
theorem dX3_forget_49 : decode k_X3_forget.2.1 49 = .ok (.getfield 20, 3) := by decide +kernel
theorem dX3_forget_52 : decode k_X3_forget.2.1 52 = .ok (.invokevirtual 55, 3) := by decide +kernel
theorem dX3_forget_55 : decode k_X3_forget.2.1 55 = .ok (.return_, 1) := by decide +kernel
theorem dX4_init_0 : decode k_X4_init.2.1 0 = .ok (.aload_n 0, 1) := by decide +kernel
theorem dX4_init_1 : decode k_X4_init.2.1 1 = .ok (.invokespecial 3, 3) := by decide +kernel
theorem dX4_init_4 : decode k_X4_init.2.1 4 = .ok (.aload_n 0, 1) := by decide +kernel
theorem dX4_init_5 : decode k_X4_init.2.1 5 = .ok (.bipush 10, 2) := by decide +kernel
theorem dX4_init_7 : decode k_X4_init.2.1 7 = .ok (.anewarray 9, 3) := by decide +kernel
theorem dX4_init_10 : decode k_X4_init.2.1 10 = .ok (.putfield 11, 3) := by decide +kernel
theorem dX4_init_13 : decode k_X4_init.2.1 13 = .ok (.aload_n 0, 1) := by decide +kernel
theorem dX4_init_14 : decode k_X4_init.2.1 14 = .ok (.iconst 0, 1) := by decide +kernel
theorem dX4_init_15 : decode k_X4_init.2.1 15 = .ok (.putfield 17, 3) := by decide +kernel
theorem dX4_init_18 : decode k_X4_init.2.1 18 = .ok (.aload_n 0, 1) := by decide +kernel
theorem dX4_init_19 : decode k_X4_init.2.1 19 = .ok (.iconst 0, 1) := by decide +kernel
theorem dX4_init_20 : decode k_X4_init.2.1 20 = .ok (.putfield 21, 3) := by decide +kernel
theorem dX4_init_23 : decode k_X4_init.2.1 23 = .ok (.iconst 0, 1) := by decide +kernel
theorem dX4_init_24 : decode k_X4_init.2.1 24 = .ok (.istore_n 1, 1) := by decide +kernel
theorem dX4_init_25 : decode k_X4_init.2.1 25 = .ok (.iload_n 1, 1) := by decide +kernel
theorem dX4_init_26 : decode k_X4_init.2.1 26 = .ok (.bipush 10, 2) := by decide +kernel
theorem dX4_init_28 : decode k_X4_init.2.1 28 = .ok (.if_icmp .ge 22, 3) := by decide +kernel
theorem dX4_init_31 : decode k_X4_init.2.1 31 = .ok (.aload_n 0, 1) := by decide +kernel
theorem dX4_init_32 : decode k_X4_init.2.1 32 = .ok (.getfield 11, 3) := by decide +kernel
theorem dX4_init_35 : decode k_X4_init.2.1 35 = .ok (.iload_n 1, 1) := by decide +kernel
theorem dX4_init_36 : decode k_X4_init.2.1 36 = .ok (.new 9, 3) := by decide +kernel
theorem dX4_init_39 : decode k_X4_init.2.1 39 = .ok (.dup, 1) := by decide +kernel
theorem dX4_init_40 : decode k_X4_init.2.1 40 = .ok (.invokespecial 24, 3) := by decide +kernel
theorem dX4_init_43 : decode k_X4_init.2.1 43 = .ok (.aastore, 1) := by decide +kernel
theorem dX4_init_44 : decode k_X4_init.2.1 44 = .ok (.iinc 1 1, 3) := by decide +kernel
theorem dX4_init_47 : decode k_X4_init.2.1 47 = .ok (.goto (-22), 3) := by decide +kernel
theorem dX4_init_50 : decode k_X4_init.2.1 50 = .ok (.return_, 1) := by decide +kernel
theorem dX4_size_0 : decode k_X4_size.2.1 0 = .ok (.aload_n 0, 1) := by decide +kernel
theorem dX4_size_1 : decode k_X4_size.2.1 1 = .ok (.getfield 21, 3) := by decide +kernel
theorem dX4_size_4 : decode k_X4_size.2.1 4 = .ok (.ireturn, 1) := by decide +kernel
theorem dX4_forget_0 : decode k_X4_forget.2.1 0 = .ok (.aload_n 0, 1) := by decide +kernel
theorem dX4_forget_1 : decode k_X4_forget.2.1 1 = .ok (.iconst 0, 1) := by decide +kernel
theorem dX4_forget_2 : decode k_X4_forget.2.1 2 = .ok (.putfield 21, 3) := by decide +kernel
theorem dX4_forget_5 : decode k_X4_forget.2.1 5 = .ok (.return_, 1) := by decide +kernel
theorem dX4_keep_0 : decode k_X4_keep.2.1 0 = .ok (.aload_n 0, 1) := by decide +kernel
theorem dX4_keep_1 : decode k_X4_keep.2.1 1 = .ok (.getfield 11, 3) := by decide +kernel
theorem dX4_keep_4 : decode k_X4_keep.2.1 4 = .ok (.aload_n 0, 1) := by decide +kernel
theorem dX4_keep_5 : decode k_X4_keep.2.1 5 = .ok (.getfield 17, 3) := by decide +kernel
theorem dX4_keep_8 : decode k_X4_keep.2.1 8 = .ok (.aaload, 1) := by decide +kernel
theorem dX4_keep_9 : decode k_X4_keep.2.1 9 = .ok (.aload_n 1, 1) := by decide +kernel
theorem dX4_keep_10 : decode k_X4_keep.2.1 10 = .ok (.invokevirtual 25, 3) := by decide +kernel
theorem dX4_keep_13 : decode k_X4_keep.2.1 13 = .ok (.aload_n 0, 1) := by decide +kernel
theorem dX4_keep_14 : decode k_X4_keep.2.1 14 = .ok (.aload_n 0, 1) := by decide +kernel
theorem dX4_keep_15 : decode k_X4_keep.2.1 15 = .ok (.getfield 17, 3) := by decide +kernel
theorem dX4_keep_18 : decode k_X4_keep.2.1 18 = .ok (.iconst 1, 1) := by decide +kernel
theorem dX4_keep_19 : decode k_X4_keep.2.1 19 = .ok (.iadd, 1) := by decide +kernel
theorem dX4_keep_20 : decode k_X4_keep.2.1 20 = .ok (.bipush 10, 2) := by decide +kernel
theorem dX4_keep_22 : decode k_X4_keep.2.1 22 = .ok (.invokestatic 29, 3) := by decide +kernel
theorem dX4_keep_25 : decode k_X4_keep.2.1 25 = .ok (.putfield 17, 3) := by decide +kernel
theorem dX4_keep_28 : decode k_X4_keep.2.1 28 = .ok (.aload_n 0, 1) := by decide +kernel
theorem dX4_keep_29 : decode k_X4_keep.2.1 29 = .ok (.aload_n 0, 1) := by decide +kernel
theorem dX4_keep_30 : decode k_X4_keep.2.1 30 = .ok (.getfield 21, 3) := by decide +kernel
theorem dX4_keep_33 : decode k_X4_keep.2.1 33 = .ok (.iconst 1, 1) := by decide +kernel
theorem dX4_keep_34 : decode k_X4_keep.2.1 34 = .ok (.iadd, 1) := by decide +kernel
theorem dX4_keep_35 : decode k_X4_keep.2.1 35 = .ok (.bipush 10, 2) := by decide +kernel
theorem dX4_keep_37 : decode k_X4_keep.2.1 37 = .ok (.invokestatic 35, 3) := by decide +kernel
theorem dX4_keep_40 : decode k_X4_keep.2.1 40 = .ok (.putfield 21, 3) := by decide +kernel
theorem dX4_keep_43 : decode k_X4_keep.2.1 43 = .ok (.return_, 1) := by decide +kernel
theorem dX4_goBack_0 : decode k_X4_goBack.2.1 0 = .ok (.aload_n 0, 1) := by decide +kernel
theorem dX4_goBack_1 : decode k_X4_goBack.2.1 1 = .ok (.aload_n 0, 1) := by decide +kernel
theorem dX4_goBack_2 : decode k_X4_goBack.2.1 2 = .ok (.getfield 17, 3) := by decide +kernel
theorem dX4_goBack_5 : decode k_X4_goBack.2.1 5 = .ok (.iload_n 1, 1) := by decide +kernel
theorem dX4_goBack_6 : decode k_X4_goBack.2.1 6 = .ok (.isub, 1) := by decide +kernel
theorem dX4_goBack_7 : decode k_X4_goBack.2.1 7 = .ok (.bipush 10, 2) := by decide +kernel
theorem dX4_goBack_9 : decode k_X4_goBack.2.1 9 = .ok (.invokestatic 29, 3) := by decide +kernel
theorem dX4_goBack_12 : decode k_X4_goBack.2.1 12 = .ok (.putfield 17, 3) := by decide +kernel
theorem dX4_goBack_15 : decode k_X4_goBack.2.1 15 = .ok (.aload_n 0, 1) := by decide +kernel
theorem dX4_goBack_16 : decode k_X4_goBack.2.1 16 = .ok (.aload_n 0, 1) := by decide +kernel
theorem dX4_goBack_17 : decode k_X4_goBack.2.1 17 = .ok (.getfield 21, 3) := by decide +kernel
theorem dX4_goBack_20 : decode k_X4_goBack.2.1 20 = .ok (.iload_n 1, 1) := by decide +kernel
theorem dX4_goBack_21 : decode k_X4_goBack.2.1 21 = .ok (.isub, 1) := by decide +kernel
theorem dX4_goBack_22 : decode k_X4_goBack.2.1 22 = .ok (.iconst 0, 1) := by decide +kernel
theorem dX4_goBack_23 : decode k_X4_goBack.2.1 23 = .ok (.invokestatic 38, 3) := by decide +kernel
theorem dX4_goBack_26 : decode k_X4_goBack.2.1 26 = .ok (.putfield 21, 3) := by decide +kernel
theorem dX4_goBack_29 : decode k_X4_goBack.2.1 29 = .ok (.aload_n 2, 1) := by decide +kernel
theorem dX4_goBack_30 : decode k_X4_goBack.2.1 30 = .ok (.aload_n 0, 1) := by decide +kernel
theorem dX4_goBack_31 : decode k_X4_goBack.2.1 31 = .ok (.getfield 11, 3) := by decide +kernel
theorem dX4_goBack_34 : decode k_X4_goBack.2.1 34 = .ok (.aload_n 0, 1) := by decide +kernel
theorem dX4_goBack_35 : decode k_X4_goBack.2.1 35 = .ok (.getfield 17, 3) := by decide +kernel
theorem dX4_goBack_38 : decode k_X4_goBack.2.1 38 = .ok (.aaload, 1) := by decide +kernel
theorem dX4_goBack_39 : decode k_X4_goBack.2.1 39 = .ok (.invokevirtual 25, 3) := by decide +kernel
theorem dX4_goBack_42 : decode k_X4_goBack.2.1 42 = .ok (.return_, 1) := by decide +kernel
theorem dX5_init_0 : decode k_X5_init.2.1 0 = .ok (.aload_n 0, 1) := by decide +kernel
theorem dX5_init_1 : decode k_X5_init.2.1 1 = .ok (.invokespecial 3, 3) := by decide +kernel
theorem dX5_init_4 : decode k_X5_init.2.1 4 = .ok (.aload_n 0, 1) := by decide +kernel
theorem dX5_init_5 : decode k_X5_init.2.1 5 = .ok (.new 9, 3) := by decide +kernel
theorem dX5_init_8 : decode k_X5_init.2.1 8 = .ok (.dup, 1) := by decide +kernel
theorem dX5_init_9 : decode k_X5_init.2.1 9 = .ok (.sipush 240, 3) := by decide +kernel
theorem dX5_init_12 : decode k_X5_init.2.1 12 = .ok (.invokespecial 11, 3) := by decide +kernel
theorem dX5_init_15 : decode k_X5_init.2.1 15 = .ok (.putfield 14, 3) := by decide +kernel
theorem dX5_init_18 : decode k_X5_init.2.1 18 = .ok (.aload_n 0, 1) := by decide +kernel
theorem dX5_init_19 : decode k_X5_init.2.1 19 = .ok (.new 9, 3) := by decide +kernel
theorem dX5_init_22 : decode k_X5_init.2.1 22 = .ok (.dup, 1) := by decide +kernel
theorem dX5_init_23 : decode k_X5_init.2.1 23 = .ok (.sipush 240, 3) := by decide +kernel
theorem dX5_init_26 : decode k_X5_init.2.1 26 = .ok (.invokespecial 11, 3) := by decide +kernel
theorem dX5_init_29 : decode k_X5_init.2.1 29 = .ok (.putfield 20, 3) := by decide +kernel
theorem dX5_init_32 : decode k_X5_init.2.1 32 = .ok (.aload_n 0, 1) := by decide +kernel
theorem dX5_init_33 : decode k_X5_init.2.1 33 = .ok (.new 9, 3) := by decide +kernel
theorem dX5_init_36 : decode k_X5_init.2.1 36 = .ok (.dup, 1) := by decide +kernel
theorem dX5_init_37 : decode k_X5_init.2.1 37 = .ok (.sipush 240, 3) := by decide +kernel
theorem dX5_init_40 : decode k_X5_init.2.1 40 = .ok (.invokespecial 11, 3) := by decide +kernel
theorem dX5_init_43 : decode k_X5_init.2.1 43 = .ok (.putfield 23, 3) := by decide +kernel
theorem dX5_init_46 : decode k_X5_init.2.1 46 = .ok (.aload_n 0, 1) := by decide +kernel
theorem dX5_init_47 : decode k_X5_init.2.1 47 = .ok (.new 9, 3) := by decide +kernel
theorem dX5_init_50 : decode k_X5_init.2.1 50 = .ok (.dup, 1) := by decide +kernel
theorem dX5_init_51 : decode k_X5_init.2.1 51 = .ok (.sipush 240, 3) := by decide +kernel
theorem dX5_init_54 : decode k_X5_init.2.1 54 = .ok (.invokespecial 11, 3) := by decide +kernel
theorem dX5_init_57 : decode k_X5_init.2.1 57 = .ok (.putfield 26, 3) := by decide +kernel
theorem dX5_init_60 : decode k_X5_init.2.1 60 = .ok (.aload_n 0, 1) := by decide +kernel
theorem dX5_init_61 : decode k_X5_init.2.1 61 = .ok (.sipush 241, 3) := by decide +kernel
theorem dX5_init_64 : decode k_X5_init.2.1 64 = .ok (.newarray .int, 2) := by decide +kernel
theorem dX5_init_66 : decode k_X5_init.2.1 66 = .ok (.putfield 29, 3) := by decide +kernel
theorem dX5_init_69 : decode k_X5_init.2.1 69 = .ok (.aload_n 0, 1) := by decide +kernel
theorem dX5_init_70 : decode k_X5_init.2.1 70 = .ok (.iconst 0, 1) := by decide +kernel
theorem dX5_init_71 : decode k_X5_init.2.1 71 = .ok (.putfield 33, 3) := by decide +kernel
theorem dX5_init_74 : decode k_X5_init.2.1 74 = .ok (.aload_n 0, 1) := by decide +kernel
theorem dX5_init_75 : decode k_X5_init.2.1 75 = .ok (.iconst (-1), 1) := by decide +kernel
theorem dX5_init_76 : decode k_X5_init.2.1 76 = .ok (.putfield 37, 3) := by decide +kernel
theorem dX5_init_79 : decode k_X5_init.2.1 79 = .ok (.return_, 1) := by decide +kernel
theorem dX5_readRow_0 : decode k_X5_readRow.2.1 0 = .ok (.aload_n 0, 1) := by decide +kernel
theorem dX5_readRow_1 : decode k_X5_readRow.2.1 1 = .ok (.getfield 14, 3) := by decide +kernel
theorem dX5_readRow_4 : decode k_X5_readRow.2.1 4 = .ok (.invokevirtual 40, 3) := by decide +kernel
theorem dX5_readRow_7 : decode k_X5_readRow.2.1 7 = .ok (.aload_n 0, 1) := by decide +kernel
theorem dX5_readRow_8 : decode k_X5_readRow.2.1 8 = .ok (.getfield 20, 3) := by decide +kernel
theorem dX5_readRow_11 : decode k_X5_readRow.2.1 11 = .ok (.invokevirtual 40, 3) := by decide +kernel
theorem dX5_readRow_14 : decode k_X5_readRow.2.1 14 = .ok (.aload_n 0, 1) := by decide +kernel
theorem dX5_readRow_15 : decode k_X5_readRow.2.1 15 = .ok (.getfield 23, 3) := by decide +kernel
theorem dX5_readRow_18 : decode k_X5_readRow.2.1 18 = .ok (.invokevirtual 40, 3) := by decide +kernel
theorem dX5_readRow_21 : decode k_X5_readRow.2.1 21 = .ok (.aload_n 0, 1) := by decide +kernel
theorem dX5_readRow_22 : decode k_X5_readRow.2.1 22 = .ok (.getfield 26, 3) := by decide +kernel
theorem dX5_readRow_25 : decode k_X5_readRow.2.1 25 = .ok (.invokevirtual 40, 3) := by decide +kernel
theorem dX5_readRow_28 : decode k_X5_readRow.2.1 28 = .ok (.iconst 0, 1) := by decide +kernel
theorem dX5_readRow_29 : decode k_X5_readRow.2.1 29 = .ok (.istore 4, 2) := by decide +kernel
theorem dX5_readRow_31 : decode k_X5_readRow.2.1 31 = .ok (.iload 4, 2) := by decide +kernel
theorem dX5_readRow_33 : decode k_X5_readRow.2.1 33 = .ok (.aload_n 1, 1) := by decide +kernel
theorem dX5_readRow_34 : decode k_X5_readRow.2.1 34 = .ok (.invokevirtual 43, 3) := by decide +kernel
theorem dX5_readRow_37 : decode k_X5_readRow.2.1 37 = .ok (.if_icmp .ge 108, 3) := by decide +kernel
theorem dX5_readRow_40 : decode k_X5_readRow.2.1 40 = .ok (.aload_n 0, 1) := by decide +kernel
theorem dX5_readRow_41 : decode k_X5_readRow.2.1 41 = .ok (.getfield 14, 3) := by decide +kernel
theorem dX5_readRow_44 : decode k_X5_readRow.2.1 44 = .ok (.invokevirtual 43, 3) := by decide +kernel
theorem dX5_readRow_47 : decode k_X5_readRow.2.1 47 = .ok (.istore 5, 2) := by decide +kernel
theorem dX5_readRow_49 : decode k_X5_readRow.2.1 49 = .ok (.iload 5, 2) := by decide +kernel
theorem dX5_readRow_51 : decode k_X5_readRow.2.1 51 = .ok (.aload_n 3, 1) := by decide +kernel
theorem dX5_readRow_52 : decode k_X5_readRow.2.1 52 = .ok (.aload_n 1, 1) := by decide +kernel
theorem dX5_readRow_53 : decode k_X5_readRow.2.1 53 = .ok (.iload 4, 2) := by decide +kernel
theorem dX5_readRow_55 : decode k_X5_readRow.2.1 55 = .ok (.invokevirtual 47, 3) := by decide +kernel
theorem dX5_readRow_58 : decode k_X5_readRow.2.1 58 = .ok (.invokevirtual 51, 3) := by decide +kernel
theorem dX5_readRow_61 : decode k_X5_readRow.2.1 61 = .ok (.iadd, 1) := by decide +kernel
theorem dX5_readRow_62 : decode k_X5_readRow.2.1 62 = .ok (.istore 6, 2) := by decide +kernel
theorem dX5_readRow_64 : decode k_X5_readRow.2.1 64 = .ok (.iload 5, 2) := by decide +kernel
theorem dX5_readRow_66 : decode k_X5_readRow.2.1 66 = .ok (.istore 7, 2) := by decide +kernel
theorem dX5_readRow_68 : decode k_X5_readRow.2.1 68 = .ok (.iload 7, 2) := by decide +kernel
theorem dX5_readRow_70 : decode k_X5_readRow.2.1 70 = .ok (.iload 6, 2) := by decide +kernel
theorem dX5_readRow_72 : decode k_X5_readRow.2.1 72 = .ok (.if_icmp .ge 67, 3) := by decide +kernel
theorem dX5_readRow_75 : decode k_X5_readRow.2.1 75 = .ok (.aload_n 3, 1) := by decide +kernel
theorem dX5_readRow_76 : decode k_X5_readRow.2.1 76 = .ok (.aload_n 2, 1) := by decide +kernel
theorem dX5_readRow_77 : decode k_X5_readRow.2.1 77 = .ok (.aload_n 1, 1) := by decide +kernel
theorem dX5_readRow_78 : decode k_X5_readRow.2.1 78 = .ok (.iload 4, 2) := by decide +kernel
theorem dX5_readRow_80 : decode k_X5_readRow.2.1 80 = .ok (.invokevirtual 47, 3) := by decide +kernel
theorem dX5_readRow_83 : decode k_X5_readRow.2.1 83 = .ok (.iload 7, 2) := by decide +kernel
theorem dX5_readRow_85 : decode k_X5_readRow.2.1 85 = .ok (.iload 5, 2) := by decide +kernel
theorem dX5_readRow_87 : decode k_X5_readRow.2.1 87 = .ok (.isub, 1) := by decide +kernel
theorem dX5_readRow_88 : decode k_X5_readRow.2.1 88 = .ok (.bipush 60, 2) := by decide +kernel
theorem dX5_readRow_90 : decode k_X5_readRow.2.1 90 = .ok (.invokevirtual 56, 3) := by decide +kernel
theorem dX5_readRow_93 : decode k_X5_readRow.2.1 93 = .ok (.aload_n 0, 1) := by decide +kernel
theorem dX5_readRow_94 : decode k_X5_readRow.2.1 94 = .ok (.getfield 14, 3) := by decide +kernel
theorem dX5_readRow_97 : decode k_X5_readRow.2.1 97 = .ok (.aload_n 3, 1) := by decide +kernel
theorem dX5_readRow_98 : decode k_X5_readRow.2.1 98 = .ok (.invokevirtual 60, 3) := by decide +kernel
theorem dX5_readRow_101 : decode k_X5_readRow.2.1 101 = .ok (.invokevirtual 63, 3) := by decide +kernel
theorem dX5_readRow_104 : decode k_X5_readRow.2.1 104 = .ok (.aload_n 0, 1) := by decide +kernel
theorem dX5_readRow_105 : decode k_X5_readRow.2.1 105 = .ok (.getfield 20, 3) := by decide +kernel
theorem dX5_readRow_108 : decode k_X5_readRow.2.1 108 = .ok (.iload 4, 2) := by decide +kernel
theorem dX5_readRow_110 : decode k_X5_readRow.2.1 110 = .ok (.invokevirtual 63, 3) := by decide +kernel
theorem dX5_readRow_113 : decode k_X5_readRow.2.1 113 = .ok (.aload_n 0, 1) := by decide +kernel
theorem dX5_readRow_114 : decode k_X5_readRow.2.1 114 = .ok (.getfield 23, 3) := by decide +kernel
theorem dX5_readRow_117 : decode k_X5_readRow.2.1 117 = .ok (.iload 5, 2) := by decide +kernel
theorem dX5_readRow_119 : decode k_X5_readRow.2.1 119 = .ok (.invokevirtual 63, 3) := by decide +kernel
theorem dX5_readRow_122 : decode k_X5_readRow.2.1 122 = .ok (.aload_n 0, 1) := by decide +kernel
theorem dX5_readRow_123 : decode k_X5_readRow.2.1 123 = .ok (.getfield 26, 3) := by decide +kernel
theorem dX5_readRow_126 : decode k_X5_readRow.2.1 126 = .ok (.aload_n 3, 1) := by decide +kernel
theorem dX5_readRow_127 : decode k_X5_readRow.2.1 127 = .ok (.invokevirtual 66, 3) := by decide +kernel
theorem dX5_readRow_130 : decode k_X5_readRow.2.1 130 = .ok (.invokevirtual 63, 3) := by decide +kernel
theorem dX5_readRow_133 : decode k_X5_readRow.2.1 133 = .ok (.iinc 7 1, 3) := by decide +kernel
theorem dX5_readRow_136 : decode k_X5_readRow.2.1 136 = .ok (.goto (-68), 3) := by decide +kernel
theorem dX5_readRow_139 : decode k_X5_readRow.2.1 139 = .ok (.iinc 4 1, 3) := by decide +kernel
theorem dX5_readRow_142 : decode k_X5_readRow.2.1 142 = .ok (.goto (-111), 3) := by decide +kernel
theorem dX5_readRow_145 : decode k_X5_readRow.2.1 145 = .ok (.return_, 1) := by decide +kernel
theorem dX5_size_0 : decode k_X5_size.2.1 0 = .ok (.aload_n 0, 1) := by decide +kernel
theorem dX5_size_1 : decode k_X5_size.2.1 1 = .ok (.getfield 14, 3) := by decide +kernel
theorem dX5_size_4 : decode k_X5_size.2.1 4 = .ok (.invokevirtual 43, 3) := by decide +kernel
theorem dX5_size_7 : decode k_X5_size.2.1 7 = .ok (.ireturn, 1) := by decide +kernel
theorem dX5_hasPlace_0 : decode k_X5_hasPlace.2.1 0 = .ok (.iload_n 1, 1) := by decide +kernel
theorem dX5_hasPlace_1 : decode k_X5_hasPlace.2.1 1 = .ok (.ifCond .lt 18, 3) := by decide +kernel
theorem dX5_hasPlace_4 : decode k_X5_hasPlace.2.1 4 = .ok (.iload_n 1, 1) := by decide +kernel
theorem dX5_hasPlace_5 : decode k_X5_hasPlace.2.1 5 = .ok (.aload_n 0, 1) := by decide +kernel
theorem dX5_hasPlace_6 : decode k_X5_hasPlace.2.1 6 = .ok (.getfield 14, 3) := by decide +kernel
theorem dX5_hasPlace_9 : decode k_X5_hasPlace.2.1 9 = .ok (.invokevirtual 43, 3) := by decide +kernel
theorem dX5_hasPlace_12 : decode k_X5_hasPlace.2.1 12 = .ok (.if_icmp .ge 7, 3) := by decide +kernel
theorem dX5_hasPlace_15 : decode k_X5_hasPlace.2.1 15 = .ok (.iconst 1, 1) := by decide +kernel
theorem dX5_hasPlace_16 : decode k_X5_hasPlace.2.1 16 = .ok (.goto 4, 3) := by decide +kernel
theorem dX5_hasPlace_19 : decode k_X5_hasPlace.2.1 19 = .ok (.iconst 0, 1) := by decide +kernel
theorem dX5_hasPlace_20 : decode k_X5_hasPlace.2.1 20 = .ok (.ireturn, 1) := by decide +kernel
theorem dX5_letterAt_0 : decode k_X5_letterAt.2.1 0 = .ok (.aload_n 0, 1) := by decide +kernel
theorem dX5_letterAt_1 : decode k_X5_letterAt.2.1 1 = .ok (.getfield 14, 3) := by decide +kernel
theorem dX5_letterAt_4 : decode k_X5_letterAt.2.1 4 = .ok (.iload_n 1, 1) := by decide +kernel
theorem dX5_letterAt_5 : decode k_X5_letterAt.2.1 5 = .ok (.invokevirtual 47, 3) := by decide +kernel
theorem dX5_letterAt_8 : decode k_X5_letterAt.2.1 8 = .ok (.ireturn, 1) := by decide +kernel
theorem dX5_homeAt_0 : decode k_X5_homeAt.2.1 0 = .ok (.aload_n 0, 1) := by decide +kernel
theorem dX5_homeAt_1 : decode k_X5_homeAt.2.1 1 = .ok (.getfield 20, 3) := by decide +kernel
theorem dX5_homeAt_4 : decode k_X5_homeAt.2.1 4 = .ok (.iload_n 1, 1) := by decide +kernel
theorem dX5_homeAt_5 : decode k_X5_homeAt.2.1 5 = .ok (.invokevirtual 47, 3) := by decide +kernel
theorem dX5_homeAt_8 : decode k_X5_homeAt.2.1 8 = .ok (.ireturn, 1) := by decide +kernel
theorem dX5_beginAt_0 : decode k_X5_beginAt.2.1 0 = .ok (.aload_n 0, 1) := by decide +kernel
theorem dX5_beginAt_1 : decode k_X5_beginAt.2.1 1 = .ok (.getfield 23, 3) := by decide +kernel
theorem dX5_beginAt_4 : decode k_X5_beginAt.2.1 4 = .ok (.iload_n 1, 1) := by decide +kernel
theorem dX5_beginAt_5 : decode k_X5_beginAt.2.1 5 = .ok (.invokevirtual 47, 3) := by decide +kernel
theorem dX5_beginAt_8 : decode k_X5_beginAt.2.1 8 = .ok (.ireturn, 1) := by decide +kernel
theorem dX5_depthAt_0 : decode k_X5_depthAt.2.1 0 = .ok (.aload_n 0, 1) := by decide +kernel
theorem dX5_depthAt_1 : decode k_X5_depthAt.2.1 1 = .ok (.getfield 26, 3) := by decide +kernel
theorem dX5_depthAt_4 : decode k_X5_depthAt.2.1 4 = .ok (.iload_n 1, 1) := by decide +kernel
theorem dX5_depthAt_5 : decode k_X5_depthAt.2.1 5 = .ok (.invokevirtual 47, 3) := by decide +kernel
theorem dX5_depthAt_8 : decode k_X5_depthAt.2.1 8 = .ok (.ireturn, 1) := by decide +kernel
theorem dX5_depthSum_0 : decode k_X5_depthSum.2.1 0 = .ok (.iconst 0, 1) := by decide +kernel
theorem dX5_depthSum_1 : decode k_X5_depthSum.2.1 1 = .ok (.istore_n 1, 1) := by decide +kernel
theorem dX5_depthSum_2 : decode k_X5_depthSum.2.1 2 = .ok (.iconst 0, 1) := by decide +kernel
theorem dX5_depthSum_3 : decode k_X5_depthSum.2.1 3 = .ok (.istore_n 2, 1) := by decide +kernel
theorem dX5_depthSum_4 : decode k_X5_depthSum.2.1 4 = .ok (.iload_n 2, 1) := by decide +kernel
theorem dX5_depthSum_5 : decode k_X5_depthSum.2.1 5 = .ok (.aload_n 0, 1) := by decide +kernel
theorem dX5_depthSum_6 : decode k_X5_depthSum.2.1 6 = .ok (.getfield 26, 3) := by decide +kernel
theorem dX5_depthSum_9 : decode k_X5_depthSum.2.1 9 = .ok (.invokevirtual 43, 3) := by decide +kernel
theorem dX5_depthSum_12 : decode k_X5_depthSum.2.1 12 = .ok (.if_icmp .ge 20, 3) := by decide +kernel
theorem dX5_depthSum_15 : decode k_X5_depthSum.2.1 15 = .ok (.iload_n 1, 1) := by decide +kernel
theorem dX5_depthSum_16 : decode k_X5_depthSum.2.1 16 = .ok (.aload_n 0, 1) := by decide +kernel
theorem dX5_depthSum_17 : decode k_X5_depthSum.2.1 17 = .ok (.getfield 26, 3) := by decide +kernel
theorem dX5_depthSum_20 : decode k_X5_depthSum.2.1 20 = .ok (.iload_n 2, 1) := by decide +kernel
theorem dX5_depthSum_21 : decode k_X5_depthSum.2.1 21 = .ok (.invokevirtual 47, 3) := by decide +kernel
theorem dX5_depthSum_24 : decode k_X5_depthSum.2.1 24 = .ok (.iadd, 1) := by decide +kernel
theorem dX5_depthSum_25 : decode k_X5_depthSum.2.1 25 = .ok (.istore_n 1, 1) := by decide +kernel
theorem dX5_depthSum_26 : decode k_X5_depthSum.2.1 26 = .ok (.iinc 2 1, 3) := by decide +kernel
theorem dX5_depthSum_29 : decode k_X5_depthSum.2.1 29 = .ok (.goto (-25), 3) := by decide +kernel
theorem dX5_depthSum_32 : decode k_X5_depthSum.2.1 32 = .ok (.iload_n 1, 1) := by decide +kernel
theorem dX5_depthSum_33 : decode k_X5_depthSum.2.1 33 = .ok (.ireturn, 1) := by decide +kernel
theorem dX5_alikeFrom_0 : decode k_X5_alikeFrom.2.1 0 = .ok (.aload_n 0, 1) := by decide +kernel
theorem dX5_alikeFrom_1 : decode k_X5_alikeFrom.2.1 1 = .ok (.getfield 14, 3) := by decide +kernel
theorem dX5_alikeFrom_4 : decode k_X5_alikeFrom.2.1 4 = .ok (.invokevirtual 43, 3) := by decide +kernel
theorem dX5_alikeFrom_7 : decode k_X5_alikeFrom.2.1 7 = .ok (.iload_n 1, 1) := by decide +kernel
theorem dX5_alikeFrom_8 : decode k_X5_alikeFrom.2.1 8 = .ok (.iload_n 2, 1) := by decide +kernel
theorem dX5_alikeFrom_9 : decode k_X5_alikeFrom.2.1 9 = .ok (.invokestatic 69, 3) := by decide +kernel
theorem dX5_alikeFrom_12 : decode k_X5_alikeFrom.2.1 12 = .ok (.isub, 1) := by decide +kernel
theorem dX5_alikeFrom_13 : decode k_X5_alikeFrom.2.1 13 = .ok (.istore_n 3, 1) := by decide +kernel
theorem dX5_alikeFrom_14 : decode k_X5_alikeFrom.2.1 14 = .ok (.iconst 0, 1) := by decide +kernel
theorem dX5_alikeFrom_15 : decode k_X5_alikeFrom.2.1 15 = .ok (.istore 4, 2) := by decide +kernel
theorem dX5_alikeFrom_17 : decode k_X5_alikeFrom.2.1 17 = .ok (.iload 4, 2) := by decide +kernel
theorem dX5_alikeFrom_19 : decode k_X5_alikeFrom.2.1 19 = .ok (.iload_n 3, 1) := by decide +kernel
theorem dX5_alikeFrom_20 : decode k_X5_alikeFrom.2.1 20 = .ok (.if_icmp .ge 37, 3) := by decide +kernel
theorem dX5_alikeFrom_23 : decode k_X5_alikeFrom.2.1 23 = .ok (.aload_n 0, 1) := by decide +kernel
theorem dX5_alikeFrom_24 : decode k_X5_alikeFrom.2.1 24 = .ok (.getfield 14, 3) := by decide +kernel
theorem dX5_alikeFrom_27 : decode k_X5_alikeFrom.2.1 27 = .ok (.iload_n 1, 1) := by decide +kernel
theorem dX5_alikeFrom_28 : decode k_X5_alikeFrom.2.1 28 = .ok (.iload 4, 2) := by decide +kernel
theorem dX5_alikeFrom_30 : decode k_X5_alikeFrom.2.1 30 = .ok (.iadd, 1) := by decide +kernel
theorem dX5_alikeFrom_31 : decode k_X5_alikeFrom.2.1 31 = .ok (.invokevirtual 47, 3) := by decide +kernel
theorem dX5_alikeFrom_34 : decode k_X5_alikeFrom.2.1 34 = .ok (.aload_n 0, 1) := by decide +kernel
theorem dX5_alikeFrom_35 : decode k_X5_alikeFrom.2.1 35 = .ok (.getfield 14, 3) := by decide +kernel
theorem dX5_alikeFrom_38 : decode k_X5_alikeFrom.2.1 38 = .ok (.iload_n 2, 1) := by decide +kernel
theorem dX5_alikeFrom_39 : decode k_X5_alikeFrom.2.1 39 = .ok (.iload 4, 2) := by decide +kernel
theorem dX5_alikeFrom_41 : decode k_X5_alikeFrom.2.1 41 = .ok (.iadd, 1) := by decide +kernel
theorem dX5_alikeFrom_42 : decode k_X5_alikeFrom.2.1 42 = .ok (.invokevirtual 47, 3) := by decide +kernel
theorem dX5_alikeFrom_45 : decode k_X5_alikeFrom.2.1 45 = .ok (.if_icmp .eq 6, 3) := by decide +kernel
theorem dX5_alikeFrom_48 : decode k_X5_alikeFrom.2.1 48 = .ok (.iload 4, 2) := by decide +kernel
theorem dX5_alikeFrom_50 : decode k_X5_alikeFrom.2.1 50 = .ok (.ireturn, 1) := by decide +kernel
theorem dX5_alikeFrom_51 : decode k_X5_alikeFrom.2.1 51 = .ok (.iinc 4 1, 3) := by decide +kernel
theorem dX5_alikeFrom_54 : decode k_X5_alikeFrom.2.1 54 = .ok (.goto (-37), 3) := by decide +kernel
theorem dX5_alikeFrom_57 : decode k_X5_alikeFrom.2.1 57 = .ok (.iload_n 3, 1) := by decide +kernel
theorem dX5_alikeFrom_58 : decode k_X5_alikeFrom.2.1 58 = .ok (.iconst 0, 1) := by decide +kernel
theorem dX5_alikeFrom_59 : decode k_X5_alikeFrom.2.1 59 = .ok (.invokestatic 69, 3) := by decide +kernel
theorem dX5_alikeFrom_62 : decode k_X5_alikeFrom.2.1 62 = .ok (.ireturn, 1) := by decide +kernel
theorem dX5_seekTwice_0 : decode k_X5_seekTwice.2.1 0 = .ok (.aload_n 0, 1) := by decide +kernel
theorem dX5_seekTwice_1 : decode k_X5_seekTwice.2.1 1 = .ok (.iconst 0, 1) := by decide +kernel
theorem dX5_seekTwice_2 : decode k_X5_seekTwice.2.1 2 = .ok (.putfield 33, 3) := by decide +kernel
theorem dX5_seekTwice_5 : decode k_X5_seekTwice.2.1 5 = .ok (.aload_n 0, 1) := by decide +kernel
theorem dX5_seekTwice_6 : decode k_X5_seekTwice.2.1 6 = .ok (.iconst (-1), 1) := by decide +kernel
theorem dX5_seekTwice_7 : decode k_X5_seekTwice.2.1 7 = .ok (.putfield 37, 3) := by decide +kernel
theorem dX5_seekTwice_10 : decode k_X5_seekTwice.2.1 10 = .ok (.aload_n 0, 1) := by decide +kernel
theorem dX5_seekTwice_11 : decode k_X5_seekTwice.2.1 11 = .ok (.getfield 14, 3) := by decide +kernel
theorem dX5_seekTwice_14 : decode k_X5_seekTwice.2.1 14 = .ok (.invokevirtual 43, 3) := by decide +kernel
theorem dX5_seekTwice_17 : decode k_X5_seekTwice.2.1 17 = .ok (.istore_n 1, 1) := by decide +kernel
theorem dX5_seekTwice_18 : decode k_X5_seekTwice.2.1 18 = .ok (.iload_n 1, 1) := by decide +kernel
theorem dX5_seekTwice_19 : decode k_X5_seekTwice.2.1 19 = .ok (.aload_n 0, 1) := by decide +kernel
theorem dX5_seekTwice_20 : decode k_X5_seekTwice.2.1 20 = .ok (.getfield 29, 3) := by decide +kernel
theorem dX5_seekTwice_23 : decode k_X5_seekTwice.2.1 23 = .ok (.arraylength, 1) := by decide +kernel
theorem dX5_seekTwice_24 : decode k_X5_seekTwice.2.1 24 = .ok (.if_icmp .lt 4, 3) := by decide +kernel
theorem dX5_seekTwice_27 : decode k_X5_seekTwice.2.1 27 = .ok (.return_, 1) := by decide +kernel
theorem dX5_seekTwice_28 : decode k_X5_seekTwice.2.1 28 = .ok (.aload_n 0, 1) := by decide +kernel
theorem dX5_seekTwice_29 : decode k_X5_seekTwice.2.1 29 = .ok (.getfield 29, 3) := by decide +kernel
theorem dX5_seekTwice_32 : decode k_X5_seekTwice.2.1 32 = .ok (.iload_n 1, 1) := by decide +kernel
theorem dX5_seekTwice_33 : decode k_X5_seekTwice.2.1 33 = .ok (.iconst 0, 1) := by decide +kernel
theorem dX5_seekTwice_34 : decode k_X5_seekTwice.2.1 34 = .ok (.iastore, 1) := by decide +kernel
theorem dX5_seekTwice_35 : decode k_X5_seekTwice.2.1 35 = .ok (.iload_n 1, 1) := by decide +kernel
theorem dX5_seekTwice_36 : decode k_X5_seekTwice.2.1 36 = .ok (.iconst 2, 1) := by decide +kernel
theorem dX5_seekTwice_37 : decode k_X5_seekTwice.2.1 37 = .ok (.isub, 1) := by decide +kernel
theorem dX5_seekTwice_38 : decode k_X5_seekTwice.2.1 38 = .ok (.istore_n 2, 1) := by decide +kernel
theorem dX5_seekTwice_39 : decode k_X5_seekTwice.2.1 39 = .ok (.iload_n 2, 1) := by decide +kernel
theorem dX5_seekTwice_40 : decode k_X5_seekTwice.2.1 40 = .ok (.ifCond .lt 100, 3) := by decide +kernel
theorem dX5_seekTwice_43 : decode k_X5_seekTwice.2.1 43 = .ok (.iload_n 2, 1) := by decide +kernel
theorem dX5_seekTwice_44 : decode k_X5_seekTwice.2.1 44 = .ok (.iconst 1, 1) := by decide +kernel
theorem dX5_seekTwice_45 : decode k_X5_seekTwice.2.1 45 = .ok (.iadd, 1) := by decide +kernel
theorem dX5_seekTwice_46 : decode k_X5_seekTwice.2.1 46 = .ok (.istore_n 3, 1) := by decide +kernel
theorem dX5_seekTwice_47 : decode k_X5_seekTwice.2.1 47 = .ok (.iload_n 3, 1) := by decide +kernel
theorem dX5_seekTwice_48 : decode k_X5_seekTwice.2.1 48 = .ok (.iload_n 1, 1) := by decide +kernel
theorem dX5_seekTwice_49 : decode k_X5_seekTwice.2.1 49 = .ok (.if_icmp .ge 85, 3) := by decide +kernel
theorem dX5_seekTwice_52 : decode k_X5_seekTwice.2.1 52 = .ok (.aload_n 0, 1) := by decide +kernel
theorem dX5_seekTwice_53 : decode k_X5_seekTwice.2.1 53 = .ok (.getfield 29, 3) := by decide +kernel
theorem dX5_seekTwice_56 : decode k_X5_seekTwice.2.1 56 = .ok (.iload_n 3, 1) := by decide +kernel
theorem dX5_seekTwice_57 : decode k_X5_seekTwice.2.1 57 = .ok (.aload_n 0, 1) := by decide +kernel
theorem dX5_seekTwice_58 : decode k_X5_seekTwice.2.1 58 = .ok (.getfield 14, 3) := by decide +kernel
theorem dX5_seekTwice_61 : decode k_X5_seekTwice.2.1 61 = .ok (.iload_n 2, 1) := by decide +kernel
theorem dX5_seekTwice_62 : decode k_X5_seekTwice.2.1 62 = .ok (.invokevirtual 47, 3) := by decide +kernel
theorem dX5_seekTwice_65 : decode k_X5_seekTwice.2.1 65 = .ok (.aload_n 0, 1) := by decide +kernel
theorem dX5_seekTwice_66 : decode k_X5_seekTwice.2.1 66 = .ok (.getfield 14, 3) := by decide +kernel
theorem dX5_seekTwice_69 : decode k_X5_seekTwice.2.1 69 = .ok (.iload_n 3, 1) := by decide +kernel
theorem dX5_seekTwice_70 : decode k_X5_seekTwice.2.1 70 = .ok (.invokevirtual 47, 3) := by decide +kernel
theorem dX5_seekTwice_73 : decode k_X5_seekTwice.2.1 73 = .ok (.if_icmp .ne 16, 3) := by decide +kernel
theorem dX5_seekTwice_76 : decode k_X5_seekTwice.2.1 76 = .ok (.aload_n 0, 1) := by decide +kernel
theorem dX5_seekTwice_77 : decode k_X5_seekTwice.2.1 77 = .ok (.getfield 29, 3) := by decide +kernel
theorem dX5_seekTwice_80 : decode k_X5_seekTwice.2.1 80 = .ok (.iload_n 3, 1) := by decide +kernel
theorem dX5_seekTwice_81 : decode k_X5_seekTwice.2.1 81 = .ok (.iconst 1, 1) := by decide +kernel
theorem dX5_seekTwice_82 : decode k_X5_seekTwice.2.1 82 = .ok (.iadd, 1) := by decide +kernel
theorem dX5_seekTwice_83 : decode k_X5_seekTwice.2.1 83 = .ok (.iaload, 1) := by decide +kernel
theorem dX5_seekTwice_84 : decode k_X5_seekTwice.2.1 84 = .ok (.iconst 1, 1) := by decide +kernel
theorem dX5_seekTwice_85 : decode k_X5_seekTwice.2.1 85 = .ok (.iadd, 1) := by decide +kernel
theorem dX5_seekTwice_86 : decode k_X5_seekTwice.2.1 86 = .ok (.goto 4, 3) := by decide +kernel
theorem dX5_seekTwice_89 : decode k_X5_seekTwice.2.1 89 = .ok (.iconst 0, 1) := by decide +kernel
theorem dX5_seekTwice_90 : decode k_X5_seekTwice.2.1 90 = .ok (.iastore, 1) := by decide +kernel
theorem dX5_seekTwice_91 : decode k_X5_seekTwice.2.1 91 = .ok (.aload_n 0, 1) := by decide +kernel
theorem dX5_seekTwice_92 : decode k_X5_seekTwice.2.1 92 = .ok (.getfield 29, 3) := by decide +kernel
theorem dX5_seekTwice_95 : decode k_X5_seekTwice.2.1 95 = .ok (.iload_n 3, 1) := by decide +kernel
theorem dX5_seekTwice_96 : decode k_X5_seekTwice.2.1 96 = .ok (.iaload, 1) := by decide +kernel
theorem dX5_seekTwice_97 : decode k_X5_seekTwice.2.1 97 = .ok (.ifCond .le 31, 3) := by decide +kernel
theorem dX5_seekTwice_100 : decode k_X5_seekTwice.2.1 100 = .ok (.aload_n 0, 1) := by decide +kernel
theorem dX5_seekTwice_101 : decode k_X5_seekTwice.2.1 101 = .ok (.getfield 29, 3) := by decide +kernel
theorem dX5_seekTwice_104 : decode k_X5_seekTwice.2.1 104 = .ok (.iload_n 3, 1) := by decide +kernel
theorem dX5_seekTwice_105 : decode k_X5_seekTwice.2.1 105 = .ok (.iaload, 1) := by decide +kernel
theorem dX5_seekTwice_106 : decode k_X5_seekTwice.2.1 106 = .ok (.aload_n 0, 1) := by decide +kernel
theorem dX5_seekTwice_107 : decode k_X5_seekTwice.2.1 107 = .ok (.getfield 33, 3) := by decide +kernel
theorem dX5_seekTwice_110 : decode k_X5_seekTwice.2.1 110 = .ok (.if_icmp .lt 18, 3) := by decide +kernel
theorem dX5_seekTwice_113 : decode k_X5_seekTwice.2.1 113 = .ok (.aload_n 0, 1) := by decide +kernel
theorem dX5_seekTwice_114 : decode k_X5_seekTwice.2.1 114 = .ok (.aload_n 0, 1) := by decide +kernel
theorem dX5_seekTwice_115 : decode k_X5_seekTwice.2.1 115 = .ok (.getfield 29, 3) := by decide +kernel
theorem dX5_seekTwice_118 : decode k_X5_seekTwice.2.1 118 = .ok (.iload_n 3, 1) := by decide +kernel
theorem dX5_seekTwice_119 : decode k_X5_seekTwice.2.1 119 = .ok (.iaload, 1) := by decide +kernel
theorem dX5_seekTwice_120 : decode k_X5_seekTwice.2.1 120 = .ok (.putfield 33, 3) := by decide +kernel
theorem dX5_seekTwice_123 : decode k_X5_seekTwice.2.1 123 = .ok (.aload_n 0, 1) := by decide +kernel
theorem dX5_seekTwice_124 : decode k_X5_seekTwice.2.1 124 = .ok (.iload_n 2, 1) := by decide +kernel
theorem dX5_seekTwice_125 : decode k_X5_seekTwice.2.1 125 = .ok (.putfield 37, 3) := by decide +kernel
theorem dX5_seekTwice_128 : decode k_X5_seekTwice.2.1 128 = .ok (.iinc 3 1, 3) := by decide +kernel
theorem dX5_seekTwice_131 : decode k_X5_seekTwice.2.1 131 = .ok (.goto (-84), 3) := by decide +kernel
theorem dX5_seekTwice_134 : decode k_X5_seekTwice.2.1 134 = .ok (.iinc 2 (-1), 3) := by decide +kernel
theorem dX5_seekTwice_137 : decode k_X5_seekTwice.2.1 137 = .ok (.goto (-98), 3) := by decide +kernel
theorem dX5_seekTwice_140 : decode k_X5_seekTwice.2.1 140 = .ok (.return_, 1) := by decide +kernel
theorem dX5_longestTwice_0 : decode k_X5_longestTwice.2.1 0 = .ok (.aload_n 0, 1) := by decide +kernel
theorem dX5_longestTwice_1 : decode k_X5_longestTwice.2.1 1 = .ok (.getfield 33, 3) := by decide +kernel
theorem dX5_longestTwice_4 : decode k_X5_longestTwice.2.1 4 = .ok (.ireturn, 1) := by decide +kernel
theorem dX5_twiceAt_0 : decode k_X5_twiceAt.2.1 0 = .ok (.aload_n 0, 1) := by decide +kernel
theorem dX5_twiceAt_1 : decode k_X5_twiceAt.2.1 1 = .ok (.getfield 37, 3) := by decide +kernel
theorem dX5_twiceAt_4 : decode k_X5_twiceAt.2.1 4 = .ok (.ireturn, 1) := by decide +kernel
theorem dX5_hitsOf_0 : decode k_X5_hitsOf.2.1 0 = .ok (.iconst 0, 1) := by decide +kernel
theorem dX5_hitsOf_1 : decode k_X5_hitsOf.2.1 1 = .ok (.istore_n 2, 1) := by decide +kernel
theorem dX5_hitsOf_2 : decode k_X5_hitsOf.2.1 2 = .ok (.iconst 0, 1) := by decide +kernel
theorem dX5_hitsOf_3 : decode k_X5_hitsOf.2.1 3 = .ok (.istore_n 3, 1) := by decide +kernel
theorem dX5_hitsOf_4 : decode k_X5_hitsOf.2.1 4 = .ok (.iload_n 3, 1) := by decide +kernel
theorem dX5_hitsOf_5 : decode k_X5_hitsOf.2.1 5 = .ok (.aload_n 0, 1) := by decide +kernel
theorem dX5_hitsOf_6 : decode k_X5_hitsOf.2.1 6 = .ok (.getfield 14, 3) := by decide +kernel
theorem dX5_hitsOf_9 : decode k_X5_hitsOf.2.1 9 = .ok (.invokevirtual 43, 3) := by decide +kernel
theorem dX5_hitsOf_12 : decode k_X5_hitsOf.2.1 12 = .ok (.if_icmp .ge 21, 3) := by decide +kernel
theorem dX5_hitsOf_15 : decode k_X5_hitsOf.2.1 15 = .ok (.aload_n 0, 1) := by decide +kernel
theorem dX5_hitsOf_16 : decode k_X5_hitsOf.2.1 16 = .ok (.aload_n 1, 1) := by decide +kernel
theorem dX5_hitsOf_17 : decode k_X5_hitsOf.2.1 17 = .ok (.iload_n 3, 1) := by decide +kernel
theorem dX5_hitsOf_18 : decode k_X5_hitsOf.2.1 18 = .ok (.invokevirtual 75, 3) := by decide +kernel
theorem dX5_hitsOf_21 : decode k_X5_hitsOf.2.1 21 = .ok (.ifCond .eq 6, 3) := by decide +kernel
theorem dX5_hitsOf_24 : decode k_X5_hitsOf.2.1 24 = .ok (.iinc 2 1, 3) := by decide +kernel
theorem dX5_hitsOf_27 : decode k_X5_hitsOf.2.1 27 = .ok (.iinc 3 1, 3) := by decide +kernel
theorem dX5_hitsOf_30 : decode k_X5_hitsOf.2.1 30 = .ok (.goto (-26), 3) := by decide +kernel
theorem dX5_hitsOf_33 : decode k_X5_hitsOf.2.1 33 = .ok (.iload_n 2, 1) := by decide +kernel
theorem dX5_hitsOf_34 : decode k_X5_hitsOf.2.1 34 = .ok (.ireturn, 1) := by decide +kernel
theorem dX5_crossingsOf_0 : decode k_X5_crossingsOf.2.1 0 = .ok (.iconst 0, 1) := by decide +kernel
theorem dX5_crossingsOf_1 : decode k_X5_crossingsOf.2.1 1 = .ok (.istore_n 2, 1) := by decide +kernel
theorem dX5_crossingsOf_2 : decode k_X5_crossingsOf.2.1 2 = .ok (.iconst 0, 1) := by decide +kernel
theorem dX5_crossingsOf_3 : decode k_X5_crossingsOf.2.1 3 = .ok (.istore_n 3, 1) := by decide +kernel
theorem dX5_crossingsOf_4 : decode k_X5_crossingsOf.2.1 4 = .ok (.iload_n 3, 1) := by decide +kernel
theorem dX5_crossingsOf_5 : decode k_X5_crossingsOf.2.1 5 = .ok (.aload_n 0, 1) := by decide +kernel
theorem dX5_crossingsOf_6 : decode k_X5_crossingsOf.2.1 6 = .ok (.getfield 14, 3) := by decide +kernel
theorem dX5_crossingsOf_9 : decode k_X5_crossingsOf.2.1 9 = .ok (.invokevirtual 43, 3) := by decide +kernel
theorem dX5_crossingsOf_12 : decode k_X5_crossingsOf.2.1 12 = .ok (.if_icmp .ge 47, 3) := by decide +kernel
theorem dX5_crossingsOf_15 : decode k_X5_crossingsOf.2.1 15 = .ok (.aload_n 0, 1) := by decide +kernel
theorem dX5_crossingsOf_16 : decode k_X5_crossingsOf.2.1 16 = .ok (.aload_n 1, 1) := by decide +kernel
theorem dX5_crossingsOf_17 : decode k_X5_crossingsOf.2.1 17 = .ok (.iload_n 3, 1) := by decide +kernel
theorem dX5_crossingsOf_18 : decode k_X5_crossingsOf.2.1 18 = .ok (.invokevirtual 75, 3) := by decide +kernel
theorem dX5_crossingsOf_21 : decode k_X5_crossingsOf.2.1 21 = .ok (.ifCond .eq 32, 3) := by decide +kernel
theorem dX5_crossingsOf_24 : decode k_X5_crossingsOf.2.1 24 = .ok (.aload_n 0, 1) := by decide +kernel
theorem dX5_crossingsOf_25 : decode k_X5_crossingsOf.2.1 25 = .ok (.getfield 20, 3) := by decide +kernel
theorem dX5_crossingsOf_28 : decode k_X5_crossingsOf.2.1 28 = .ok (.iload_n 3, 1) := by decide +kernel
theorem dX5_crossingsOf_29 : decode k_X5_crossingsOf.2.1 29 = .ok (.invokevirtual 47, 3) := by decide +kernel
theorem dX5_crossingsOf_32 : decode k_X5_crossingsOf.2.1 32 = .ok (.aload_n 0, 1) := by decide +kernel
theorem dX5_crossingsOf_33 : decode k_X5_crossingsOf.2.1 33 = .ok (.getfield 20, 3) := by decide +kernel
theorem dX5_crossingsOf_36 : decode k_X5_crossingsOf.2.1 36 = .ok (.iload_n 3, 1) := by decide +kernel
theorem dX5_crossingsOf_37 : decode k_X5_crossingsOf.2.1 37 = .ok (.aload_n 1, 1) := by decide +kernel
theorem dX5_crossingsOf_38 : decode k_X5_crossingsOf.2.1 38 = .ok (.invokevirtual 43, 3) := by decide +kernel
theorem dX5_crossingsOf_41 : decode k_X5_crossingsOf.2.1 41 = .ok (.iadd, 1) := by decide +kernel
theorem dX5_crossingsOf_42 : decode k_X5_crossingsOf.2.1 42 = .ok (.iconst 1, 1) := by decide +kernel
theorem dX5_crossingsOf_43 : decode k_X5_crossingsOf.2.1 43 = .ok (.isub, 1) := by decide +kernel
theorem dX5_crossingsOf_44 : decode k_X5_crossingsOf.2.1 44 = .ok (.invokevirtual 47, 3) := by decide +kernel
theorem dX5_crossingsOf_47 : decode k_X5_crossingsOf.2.1 47 = .ok (.if_icmp .eq 6, 3) := by decide +kernel
theorem dX5_crossingsOf_50 : decode k_X5_crossingsOf.2.1 50 = .ok (.iinc 2 1, 3) := by decide +kernel
theorem dX5_crossingsOf_53 : decode k_X5_crossingsOf.2.1 53 = .ok (.iinc 3 1, 3) := by decide +kernel
theorem dX5_crossingsOf_56 : decode k_X5_crossingsOf.2.1 56 = .ok (.goto (-52), 3) := by decide +kernel
theorem dX5_crossingsOf_59 : decode k_X5_crossingsOf.2.1 59 = .ok (.iload_n 2, 1) := by decide +kernel
theorem dX5_crossingsOf_60 : decode k_X5_crossingsOf.2.1 60 = .ok (.ireturn, 1) := by decide +kernel
theorem dX5_hitAt_0 : decode k_X5_hitAt.2.1 0 = .ok (.iconst 0, 1) := by decide +kernel
theorem dX5_hitAt_1 : decode k_X5_hitAt.2.1 1 = .ok (.istore_n 3, 1) := by decide +kernel
theorem dX5_hitAt_2 : decode k_X5_hitAt.2.1 2 = .ok (.iconst 0, 1) := by decide +kernel
theorem dX5_hitAt_3 : decode k_X5_hitAt.2.1 3 = .ok (.istore 4, 2) := by decide +kernel
theorem dX5_hitAt_5 : decode k_X5_hitAt.2.1 5 = .ok (.iload 4, 2) := by decide +kernel
theorem dX5_hitAt_7 : decode k_X5_hitAt.2.1 7 = .ok (.aload_n 0, 1) := by decide +kernel
theorem dX5_hitAt_8 : decode k_X5_hitAt.2.1 8 = .ok (.getfield 14, 3) := by decide +kernel
theorem dX5_hitAt_11 : decode k_X5_hitAt.2.1 11 = .ok (.invokevirtual 43, 3) := by decide +kernel
theorem dX5_hitAt_14 : decode k_X5_hitAt.2.1 14 = .ok (.if_icmp .ge 30, 3) := by decide +kernel
theorem dX5_hitAt_17 : decode k_X5_hitAt.2.1 17 = .ok (.aload_n 0, 1) := by decide +kernel
theorem dX5_hitAt_18 : decode k_X5_hitAt.2.1 18 = .ok (.aload_n 1, 1) := by decide +kernel
theorem dX5_hitAt_19 : decode k_X5_hitAt.2.1 19 = .ok (.iload 4, 2) := by decide +kernel
theorem dX5_hitAt_21 : decode k_X5_hitAt.2.1 21 = .ok (.invokevirtual 75, 3) := by decide +kernel
theorem dX5_hitAt_24 : decode k_X5_hitAt.2.1 24 = .ok (.ifCond .eq 14, 3) := by decide +kernel
theorem dX5_hitAt_27 : decode k_X5_hitAt.2.1 27 = .ok (.iload_n 3, 1) := by decide +kernel
theorem dX5_hitAt_28 : decode k_X5_hitAt.2.1 28 = .ok (.iload_n 2, 1) := by decide +kernel
theorem dX5_hitAt_29 : decode k_X5_hitAt.2.1 29 = .ok (.if_icmp .ne 6, 3) := by decide +kernel
theorem dX5_hitAt_32 : decode k_X5_hitAt.2.1 32 = .ok (.iload 4, 2) := by decide +kernel
theorem dX5_hitAt_34 : decode k_X5_hitAt.2.1 34 = .ok (.ireturn, 1) := by decide +kernel
theorem dX5_hitAt_35 : decode k_X5_hitAt.2.1 35 = .ok (.iinc 3 1, 3) := by decide +kernel
theorem dX5_hitAt_38 : decode k_X5_hitAt.2.1 38 = .ok (.iinc 4 1, 3) := by decide +kernel
theorem dX5_hitAt_41 : decode k_X5_hitAt.2.1 41 = .ok (.goto (-36), 3) := by decide +kernel
theorem dX5_hitAt_44 : decode k_X5_hitAt.2.1 44 = .ok (.iconst (-1), 1) := by decide +kernel
theorem dX5_hitAt_45 : decode k_X5_hitAt.2.1 45 = .ok (.ireturn, 1) := by decide +kernel
theorem dX5_isHit_0 : decode k_X5_isHit.2.1 0 = .ok (.aload_n 1, 1) := by decide +kernel
theorem dX5_isHit_1 : decode k_X5_isHit.2.1 1 = .ok (.invokevirtual 43, 3) := by decide +kernel
theorem dX5_isHit_4 : decode k_X5_isHit.2.1 4 = .ok (.ifCond .eq 19, 3) := by decide +kernel
theorem dX5_isHit_7 : decode k_X5_isHit.2.1 7 = .ok (.aload_n 1, 1) := by decide +kernel
theorem dX5_isHit_8 : decode k_X5_isHit.2.1 8 = .ok (.invokevirtual 43, 3) := by decide +kernel
theorem dX5_isHit_11 : decode k_X5_isHit.2.1 11 = .ok (.aload_n 0, 1) := by decide +kernel
theorem dX5_isHit_12 : decode k_X5_isHit.2.1 12 = .ok (.getfield 14, 3) := by decide +kernel
theorem dX5_isHit_15 : decode k_X5_isHit.2.1 15 = .ok (.invokevirtual 43, 3) := by decide +kernel
theorem dX5_isHit_18 : decode k_X5_isHit.2.1 18 = .ok (.iload_n 2, 1) := by decide +kernel
theorem dX5_isHit_19 : decode k_X5_isHit.2.1 19 = .ok (.isub, 1) := by decide +kernel
theorem dX5_isHit_20 : decode k_X5_isHit.2.1 20 = .ok (.if_icmp .le 5, 3) := by decide +kernel
theorem dX5_isHit_23 : decode k_X5_isHit.2.1 23 = .ok (.iconst 0, 1) := by decide +kernel
theorem dX5_isHit_24 : decode k_X5_isHit.2.1 24 = .ok (.ireturn, 1) := by decide +kernel
theorem dX5_isHit_25 : decode k_X5_isHit.2.1 25 = .ok (.iconst 0, 1) := by decide +kernel
theorem dX5_isHit_26 : decode k_X5_isHit.2.1 26 = .ok (.istore_n 3, 1) := by decide +kernel
theorem dX5_isHit_27 : decode k_X5_isHit.2.1 27 = .ok (.iload_n 3, 1) := by decide +kernel
theorem dX5_isHit_28 : decode k_X5_isHit.2.1 28 = .ok (.aload_n 1, 1) := by decide +kernel
theorem dX5_isHit_29 : decode k_X5_isHit.2.1 29 = .ok (.invokevirtual 43, 3) := by decide +kernel
theorem dX5_isHit_32 : decode k_X5_isHit.2.1 32 = .ok (.if_icmp .ge 29, 3) := by decide +kernel
theorem dX5_isHit_35 : decode k_X5_isHit.2.1 35 = .ok (.aload_n 0, 1) := by decide +kernel
theorem dX5_isHit_36 : decode k_X5_isHit.2.1 36 = .ok (.getfield 14, 3) := by decide +kernel
theorem dX5_isHit_39 : decode k_X5_isHit.2.1 39 = .ok (.iload_n 2, 1) := by decide +kernel
theorem dX5_isHit_40 : decode k_X5_isHit.2.1 40 = .ok (.iload_n 3, 1) := by decide +kernel
theorem dX5_isHit_41 : decode k_X5_isHit.2.1 41 = .ok (.iadd, 1) := by decide +kernel
theorem dX5_isHit_42 : decode k_X5_isHit.2.1 42 = .ok (.invokevirtual 47, 3) := by decide +kernel
theorem dX5_isHit_45 : decode k_X5_isHit.2.1 45 = .ok (.aload_n 1, 1) := by decide +kernel
theorem dX5_isHit_46 : decode k_X5_isHit.2.1 46 = .ok (.iload_n 3, 1) := by decide +kernel
theorem dX5_isHit_47 : decode k_X5_isHit.2.1 47 = .ok (.invokevirtual 47, 3) := by decide +kernel
theorem dX5_isHit_50 : decode k_X5_isHit.2.1 50 = .ok (.if_icmp .eq 5, 3) := by decide +kernel
theorem dX5_isHit_53 : decode k_X5_isHit.2.1 53 = .ok (.iconst 0, 1) := by decide +kernel
theorem dX5_isHit_54 : decode k_X5_isHit.2.1 54 = .ok (.ireturn, 1) := by decide +kernel
theorem dX5_isHit_55 : decode k_X5_isHit.2.1 55 = .ok (.iinc 3 1, 3) := by decide +kernel
theorem dX5_isHit_58 : decode k_X5_isHit.2.1 58 = .ok (.goto (-31), 3) := by decide +kernel
theorem dX5_isHit_61 : decode k_X5_isHit.2.1 61 = .ok (.iconst 1, 1) := by decide +kernel
theorem dX5_isHit_62 : decode k_X5_isHit.2.1 62 = .ok (.ireturn, 1) := by decide +kernel
theorem dX6_init_0 : decode k_X6_init.2.1 0 = .ok (.aload_n 0, 1) := by decide +kernel
theorem dX6_init_1 : decode k_X6_init.2.1 1 = .ok (.invokespecial 3, 3) := by decide +kernel
theorem dX6_init_4 : decode k_X6_init.2.1 4 = .ok (.aload_n 0, 1) := by decide +kernel
theorem dX6_init_5 : decode k_X6_init.2.1 5 = .ok (.iconst 0, 1) := by decide +kernel
theorem dX6_init_6 : decode k_X6_init.2.1 6 = .ok (.putfield 9, 3) := by decide +kernel
theorem dX6_init_9 : decode k_X6_init.2.1 9 = .ok (.aload_n 0, 1) := by decide +kernel
theorem dX6_init_10 : decode k_X6_init.2.1 10 = .ok (.iload_n 1, 1) := by decide +kernel
theorem dX6_init_11 : decode k_X6_init.2.1 11 = .ok (.ifCond .ge 7, 3) := by decide +kernel
theorem dX6_init_14 : decode k_X6_init.2.1 14 = .ok (.iconst 0, 1) := by decide +kernel
theorem dX6_init_15 : decode k_X6_init.2.1 15 = .ok (.goto 4, 3) := by decide +kernel
theorem dX6_init_18 : decode k_X6_init.2.1 18 = .ok (.iload_n 1, 1) := by decide +kernel
theorem dX6_init_19 : decode k_X6_init.2.1 19 = .ok (.newarray .int, 2) := by decide +kernel
theorem dX6_init_21 : decode k_X6_init.2.1 21 = .ok (.putfield 15, 3) := by decide +kernel
theorem dX6_init_24 : decode k_X6_init.2.1 24 = .ok (.return_, 1) := by decide +kernel
theorem dX6_size_0 : decode k_X6_size.2.1 0 = .ok (.aload_n 0, 1) := by decide +kernel
theorem dX6_size_1 : decode k_X6_size.2.1 1 = .ok (.getfield 9, 3) := by decide +kernel
theorem dX6_size_4 : decode k_X6_size.2.1 4 = .ok (.ireturn, 1) := by decide +kernel
theorem dX6_get_0 : decode k_X6_get.2.1 0 = .ok (.iload_n 1, 1) := by decide +kernel
theorem dX6_get_1 : decode k_X6_get.2.1 1 = .ok (.ifCond .lt 20, 3) := by decide +kernel
theorem dX6_get_4 : decode k_X6_get.2.1 4 = .ok (.iload_n 1, 1) := by decide +kernel
theorem dX6_get_5 : decode k_X6_get.2.1 5 = .ok (.aload_n 0, 1) := by decide +kernel
theorem dX6_get_6 : decode k_X6_get.2.1 6 = .ok (.getfield 9, 3) := by decide +kernel
theorem dX6_get_9 : decode k_X6_get.2.1 9 = .ok (.if_icmp .ge 12, 3) := by decide +kernel
theorem dX6_get_12 : decode k_X6_get.2.1 12 = .ok (.aload_n 0, 1) := by decide +kernel
theorem dX6_get_13 : decode k_X6_get.2.1 13 = .ok (.getfield 15, 3) := by decide +kernel
theorem dX6_get_16 : decode k_X6_get.2.1 16 = .ok (.iload_n 1, 1) := by decide +kernel
theorem dX6_get_17 : decode k_X6_get.2.1 17 = .ok (.iaload, 1) := by decide +kernel
theorem dX6_get_18 : decode k_X6_get.2.1 18 = .ok (.goto 4, 3) := by decide +kernel
theorem dX6_get_21 : decode k_X6_get.2.1 21 = .ok (.iconst (-1), 1) := by decide +kernel
theorem dX6_get_22 : decode k_X6_get.2.1 22 = .ok (.ireturn, 1) := by decide +kernel
theorem dX6_set_0 : decode k_X6_set.2.1 0 = .ok (.iload_n 1, 1) := by decide +kernel
theorem dX6_set_1 : decode k_X6_set.2.1 1 = .ok (.ifCond .lt 18, 3) := by decide +kernel
theorem dX6_set_4 : decode k_X6_set.2.1 4 = .ok (.iload_n 1, 1) := by decide +kernel
theorem dX6_set_5 : decode k_X6_set.2.1 5 = .ok (.aload_n 0, 1) := by decide +kernel
theorem dX6_set_6 : decode k_X6_set.2.1 6 = .ok (.getfield 9, 3) := by decide +kernel
theorem dX6_set_9 : decode k_X6_set.2.1 9 = .ok (.if_icmp .ge 10, 3) := by decide +kernel
theorem dX6_set_12 : decode k_X6_set.2.1 12 = .ok (.aload_n 0, 1) := by decide +kernel
theorem dX6_set_13 : decode k_X6_set.2.1 13 = .ok (.getfield 15, 3) := by decide +kernel
theorem dX6_set_16 : decode k_X6_set.2.1 16 = .ok (.iload_n 1, 1) := by decide +kernel
theorem dX6_set_17 : decode k_X6_set.2.1 17 = .ok (.iload_n 2, 1) := by decide +kernel
theorem dX6_set_18 : decode k_X6_set.2.1 18 = .ok (.iastore, 1) := by decide +kernel
theorem dX6_set_19 : decode k_X6_set.2.1 19 = .ok (.return_, 1) := by decide +kernel
theorem dX6_clear_0 : decode k_X6_clear.2.1 0 = .ok (.aload_n 0, 1) := by decide +kernel
theorem dX6_clear_1 : decode k_X6_clear.2.1 1 = .ok (.iconst 0, 1) := by decide +kernel
theorem dX6_clear_2 : decode k_X6_clear.2.1 2 = .ok (.putfield 9, 3) := by decide +kernel
theorem dX6_clear_5 : decode k_X6_clear.2.1 5 = .ok (.return_, 1) := by decide +kernel
theorem dX6_add_0 : decode k_X6_add.2.1 0 = .ok (.aload_n 0, 1) := by decide +kernel
theorem dX6_add_1 : decode k_X6_add.2.1 1 = .ok (.getfield 9, 3) := by decide +kernel
theorem dX6_add_4 : decode k_X6_add.2.1 4 = .ok (.aload_n 0, 1) := by decide +kernel
theorem dX6_add_5 : decode k_X6_add.2.1 5 = .ok (.getfield 15, 3) := by decide +kernel
theorem dX6_add_8 : decode k_X6_add.2.1 8 = .ok (.arraylength, 1) := by decide +kernel
theorem dX6_add_9 : decode k_X6_add.2.1 9 = .ok (.if_icmp .ge 23, 3) := by decide +kernel
theorem dX6_add_12 : decode k_X6_add.2.1 12 = .ok (.aload_n 0, 1) := by decide +kernel
theorem dX6_add_13 : decode k_X6_add.2.1 13 = .ok (.getfield 15, 3) := by decide +kernel
theorem dX6_add_16 : decode k_X6_add.2.1 16 = .ok (.aload_n 0, 1) := by decide +kernel
theorem dX6_add_17 : decode k_X6_add.2.1 17 = .ok (.getfield 9, 3) := by decide +kernel
theorem dX6_add_20 : decode k_X6_add.2.1 20 = .ok (.iload_n 1, 1) := by decide +kernel
theorem dX6_add_21 : decode k_X6_add.2.1 21 = .ok (.iastore, 1) := by decide +kernel
theorem dX6_add_22 : decode k_X6_add.2.1 22 = .ok (.aload_n 0, 1) := by decide +kernel
theorem dX6_add_23 : decode k_X6_add.2.1 23 = .ok (.dup, 1) := by decide +kernel
theorem dX6_add_24 : decode k_X6_add.2.1 24 = .ok (.getfield 9, 3) := by decide +kernel
theorem dX6_add_27 : decode k_X6_add.2.1 27 = .ok (.iconst 1, 1) := by decide +kernel
theorem dX6_add_28 : decode k_X6_add.2.1 28 = .ok (.iadd, 1) := by decide +kernel
theorem dX6_add_29 : decode k_X6_add.2.1 29 = .ok (.putfield 9, 3) := by decide +kernel
theorem dX6_add_32 : decode k_X6_add.2.1 32 = .ok (.return_, 1) := by decide +kernel
theorem dX6_addAt_0 : decode k_X6_addAt.2.1 0 = .ok (.iload_n 1, 1) := by decide +kernel
theorem dX6_addAt_1 : decode k_X6_addAt.2.1 1 = .ok (.ifCond .lt 23, 3) := by decide +kernel
theorem dX6_addAt_4 : decode k_X6_addAt.2.1 4 = .ok (.iload_n 1, 1) := by decide +kernel
theorem dX6_addAt_5 : decode k_X6_addAt.2.1 5 = .ok (.aload_n 0, 1) := by decide +kernel
theorem dX6_addAt_6 : decode k_X6_addAt.2.1 6 = .ok (.getfield 9, 3) := by decide +kernel
theorem dX6_addAt_9 : decode k_X6_addAt.2.1 9 = .ok (.if_icmp .gt 15, 3) := by decide +kernel
theorem dX6_addAt_12 : decode k_X6_addAt.2.1 12 = .ok (.aload_n 0, 1) := by decide +kernel
theorem dX6_addAt_13 : decode k_X6_addAt.2.1 13 = .ok (.getfield 9, 3) := by decide +kernel
theorem dX6_addAt_16 : decode k_X6_addAt.2.1 16 = .ok (.aload_n 0, 1) := by decide +kernel
theorem dX6_addAt_17 : decode k_X6_addAt.2.1 17 = .ok (.getfield 15, 3) := by decide +kernel
theorem dX6_addAt_20 : decode k_X6_addAt.2.1 20 = .ok (.arraylength, 1) := by decide +kernel
theorem dX6_addAt_21 : decode k_X6_addAt.2.1 21 = .ok (.if_icmp .lt 4, 3) := by decide +kernel
theorem dX6_addAt_24 : decode k_X6_addAt.2.1 24 = .ok (.return_, 1) := by decide +kernel
theorem dX6_addAt_25 : decode k_X6_addAt.2.1 25 = .ok (.aload_n 0, 1) := by decide +kernel
theorem dX6_addAt_26 : decode k_X6_addAt.2.1 26 = .ok (.iload_n 1, 1) := by decide +kernel
theorem dX6_addAt_27 : decode k_X6_addAt.2.1 27 = .ok (.iload_n 1, 1) := by decide +kernel
theorem dX6_addAt_28 : decode k_X6_addAt.2.1 28 = .ok (.iconst 1, 1) := by decide +kernel
theorem dX6_addAt_29 : decode k_X6_addAt.2.1 29 = .ok (.iadd, 1) := by decide +kernel
theorem dX6_addAt_30 : decode k_X6_addAt.2.1 30 = .ok (.invokevirtual 19, 3) := by decide +kernel
theorem dX6_addAt_33 : decode k_X6_addAt.2.1 33 = .ok (.aload_n 0, 1) := by decide +kernel
theorem dX6_addAt_34 : decode k_X6_addAt.2.1 34 = .ok (.getfield 15, 3) := by decide +kernel
theorem dX6_addAt_37 : decode k_X6_addAt.2.1 37 = .ok (.iload_n 1, 1) := by decide +kernel
theorem dX6_addAt_38 : decode k_X6_addAt.2.1 38 = .ok (.iload_n 2, 1) := by decide +kernel
theorem dX6_addAt_39 : decode k_X6_addAt.2.1 39 = .ok (.iastore, 1) := by decide +kernel
theorem dX6_addAt_40 : decode k_X6_addAt.2.1 40 = .ok (.return_, 1) := by decide +kernel
theorem dX6_removeFrom_0 : decode k_X6_removeFrom.2.1 0 = .ok (.iload_n 1, 1) := by decide +kernel
theorem dX6_removeFrom_1 : decode k_X6_removeFrom.2.1 1 = .ok (.ifCond .lt 25, 3) := by decide +kernel
theorem dX6_removeFrom_4 : decode k_X6_removeFrom.2.1 4 = .ok (.iload_n 2, 1) := by decide +kernel
theorem dX6_removeFrom_5 : decode k_X6_removeFrom.2.1 5 = .ok (.ifCond .lt 21, 3) := by decide +kernel
theorem dX6_removeFrom_8 : decode k_X6_removeFrom.2.1 8 = .ok (.iload_n 2, 1) := by decide +kernel
theorem dX6_removeFrom_9 : decode k_X6_removeFrom.2.1 9 = .ok (.aload_n 0, 1) := by decide +kernel
theorem dX6_removeFrom_10 : decode k_X6_removeFrom.2.1 10 = .ok (.getfield 9, 3) := by decide +kernel
theorem dX6_removeFrom_13 : decode k_X6_removeFrom.2.1 13 = .ok (.iload_n 1, 1) := by decide +kernel
theorem dX6_removeFrom_14 : decode k_X6_removeFrom.2.1 14 = .ok (.isub, 1) := by decide +kernel
theorem dX6_removeFrom_15 : decode k_X6_removeFrom.2.1 15 = .ok (.if_icmp .gt 11, 3) := by decide +kernel
theorem dX6_removeFrom_18 : decode k_X6_removeFrom.2.1 18 = .ok (.aload_n 0, 1) := by decide +kernel
theorem dX6_removeFrom_19 : decode k_X6_removeFrom.2.1 19 = .ok (.iload_n 1, 1) := by decide +kernel
theorem dX6_removeFrom_20 : decode k_X6_removeFrom.2.1 20 = .ok (.iload_n 2, 1) := by decide +kernel
theorem dX6_removeFrom_21 : decode k_X6_removeFrom.2.1 21 = .ok (.iadd, 1) := by decide +kernel
theorem dX6_removeFrom_22 : decode k_X6_removeFrom.2.1 22 = .ok (.iload_n 1, 1) := by decide +kernel
theorem dX6_removeFrom_23 : decode k_X6_removeFrom.2.1 23 = .ok (.invokevirtual 19, 3) := by decide +kernel
theorem dX6_removeFrom_26 : decode k_X6_removeFrom.2.1 26 = .ok (.return_, 1) := by decide +kernel
theorem dX6_take_0 : decode k_X6_take.2.1 0 = .ok (.aload_n 0, 1) := by decide +kernel
theorem dX6_take_1 : decode k_X6_take.2.1 1 = .ok (.invokevirtual 23, 3) := by decide +kernel
theorem dX6_take_4 : decode k_X6_take.2.1 4 = .ok (.iconst 0, 1) := by decide +kernel
theorem dX6_take_5 : decode k_X6_take.2.1 5 = .ok (.istore_n 2, 1) := by decide +kernel
theorem dX6_take_6 : decode k_X6_take.2.1 6 = .ok (.iload_n 2, 1) := by decide +kernel
theorem dX6_take_7 : decode k_X6_take.2.1 7 = .ok (.aload_n 1, 1) := by decide +kernel
theorem dX6_take_8 : decode k_X6_take.2.1 8 = .ok (.getfield 9, 3) := by decide +kernel
theorem dX6_take_11 : decode k_X6_take.2.1 11 = .ok (.if_icmp .ge 19, 3) := by decide +kernel
theorem dX6_take_14 : decode k_X6_take.2.1 14 = .ok (.aload_n 0, 1) := by decide +kernel
theorem dX6_take_15 : decode k_X6_take.2.1 15 = .ok (.aload_n 1, 1) := by decide +kernel
theorem dX6_take_16 : decode k_X6_take.2.1 16 = .ok (.getfield 15, 3) := by decide +kernel
theorem dX6_take_19 : decode k_X6_take.2.1 19 = .ok (.iload_n 2, 1) := by decide +kernel
theorem dX6_take_20 : decode k_X6_take.2.1 20 = .ok (.iaload, 1) := by decide +kernel
theorem dX6_take_21 : decode k_X6_take.2.1 21 = .ok (.invokevirtual 26, 3) := by decide +kernel
theorem dX6_take_24 : decode k_X6_take.2.1 24 = .ok (.iinc 2 1, 3) := by decide +kernel
theorem dX6_take_27 : decode k_X6_take.2.1 27 = .ok (.goto (-21), 3) := by decide +kernel
theorem dX6_take_30 : decode k_X6_take.2.1 30 = .ok (.return_, 1) := by decide +kernel
theorem dX6_howMany_0 : decode k_X6_howMany.2.1 0 = .ok (.iconst 0, 1) := by decide +kernel
theorem dX6_howMany_1 : decode k_X6_howMany.2.1 1 = .ok (.istore_n 2, 1) := by decide +kernel
theorem dX6_howMany_2 : decode k_X6_howMany.2.1 2 = .ok (.iconst 0, 1) := by decide +kernel
theorem dX6_howMany_3 : decode k_X6_howMany.2.1 3 = .ok (.istore_n 3, 1) := by decide +kernel
theorem dX6_howMany_4 : decode k_X6_howMany.2.1 4 = .ok (.iload_n 3, 1) := by decide +kernel
theorem dX6_howMany_5 : decode k_X6_howMany.2.1 5 = .ok (.aload_n 0, 1) := by decide +kernel
theorem dX6_howMany_6 : decode k_X6_howMany.2.1 6 = .ok (.getfield 9, 3) := by decide +kernel
theorem dX6_howMany_9 : decode k_X6_howMany.2.1 9 = .ok (.if_icmp .ge 22, 3) := by decide +kernel
theorem dX6_howMany_12 : decode k_X6_howMany.2.1 12 = .ok (.aload_n 0, 1) := by decide +kernel
theorem dX6_howMany_13 : decode k_X6_howMany.2.1 13 = .ok (.getfield 15, 3) := by decide +kernel
theorem dX6_howMany_16 : decode k_X6_howMany.2.1 16 = .ok (.iload_n 3, 1) := by decide +kernel
theorem dX6_howMany_17 : decode k_X6_howMany.2.1 17 = .ok (.iaload, 1) := by decide +kernel
theorem dX6_howMany_18 : decode k_X6_howMany.2.1 18 = .ok (.iload_n 1, 1) := by decide +kernel
theorem dX6_howMany_19 : decode k_X6_howMany.2.1 19 = .ok (.if_icmp .ne 6, 3) := by decide +kernel
theorem dX6_howMany_22 : decode k_X6_howMany.2.1 22 = .ok (.iinc 2 1, 3) := by decide +kernel
theorem dX6_howMany_25 : decode k_X6_howMany.2.1 25 = .ok (.iinc 3 1, 3) := by decide +kernel
theorem dX6_howMany_28 : decode k_X6_howMany.2.1 28 = .ok (.goto (-24), 3) := by decide +kernel
theorem dX6_howMany_31 : decode k_X6_howMany.2.1 31 = .ok (.iload_n 2, 1) := by decide +kernel
theorem dX6_howMany_32 : decode k_X6_howMany.2.1 32 = .ok (.ireturn, 1) := by decide +kernel
theorem dX6_isPair_0 : decode k_X6_isPair.2.1 0 = .ok (.aload_n 0, 1) := by decide +kernel
theorem dX6_isPair_1 : decode k_X6_isPair.2.1 1 = .ok (.getfield 9, 3) := by decide +kernel
theorem dX6_isPair_4 : decode k_X6_isPair.2.1 4 = .ok (.iconst 2, 1) := by decide +kernel
theorem dX6_isPair_5 : decode k_X6_isPair.2.1 5 = .ok (.if_icmp .ne 27, 3) := by decide +kernel
theorem dX6_isPair_8 : decode k_X6_isPair.2.1 8 = .ok (.aload_n 0, 1) := by decide +kernel
theorem dX6_isPair_9 : decode k_X6_isPair.2.1 9 = .ok (.getfield 15, 3) := by decide +kernel
theorem dX6_isPair_12 : decode k_X6_isPair.2.1 12 = .ok (.iconst 0, 1) := by decide +kernel
theorem dX6_isPair_13 : decode k_X6_isPair.2.1 13 = .ok (.iaload, 1) := by decide +kernel
theorem dX6_isPair_14 : decode k_X6_isPair.2.1 14 = .ok (.iload_n 1, 1) := by decide +kernel
theorem dX6_isPair_15 : decode k_X6_isPair.2.1 15 = .ok (.if_icmp .ne 17, 3) := by decide +kernel
theorem dX6_isPair_18 : decode k_X6_isPair.2.1 18 = .ok (.aload_n 0, 1) := by decide +kernel
theorem dX6_isPair_19 : decode k_X6_isPair.2.1 19 = .ok (.getfield 15, 3) := by decide +kernel
theorem dX6_isPair_22 : decode k_X6_isPair.2.1 22 = .ok (.iconst 1, 1) := by decide +kernel
theorem dX6_isPair_23 : decode k_X6_isPair.2.1 23 = .ok (.iaload, 1) := by decide +kernel
theorem dX6_isPair_24 : decode k_X6_isPair.2.1 24 = .ok (.iload_n 2, 1) := by decide +kernel
theorem dX6_isPair_25 : decode k_X6_isPair.2.1 25 = .ok (.if_icmp .ne 7, 3) := by decide +kernel
theorem dX6_isPair_28 : decode k_X6_isPair.2.1 28 = .ok (.iconst 1, 1) := by decide +kernel
theorem dX6_isPair_29 : decode k_X6_isPair.2.1 29 = .ok (.goto 4, 3) := by decide +kernel
theorem dX6_isPair_32 : decode k_X6_isPair.2.1 32 = .ok (.iconst 0, 1) := by decide +kernel
theorem dX6_isPair_33 : decode k_X6_isPair.2.1 33 = .ok (.ireturn, 1) := by decide +kernel
theorem dX6_joinPairs_0 : decode k_X6_joinPairs.2.1 0 = .ok (.iconst 0, 1) := by decide +kernel
theorem dX6_joinPairs_1 : decode k_X6_joinPairs.2.1 1 = .ok (.istore 4, 2) := by decide +kernel
theorem dX6_joinPairs_3 : decode k_X6_joinPairs.2.1 3 = .ok (.iconst 0, 1) := by decide +kernel
theorem dX6_joinPairs_4 : decode k_X6_joinPairs.2.1 4 = .ok (.istore 5, 2) := by decide +kernel
theorem dX6_joinPairs_6 : decode k_X6_joinPairs.2.1 6 = .ok (.iload 5, 2) := by decide +kernel
theorem dX6_joinPairs_8 : decode k_X6_joinPairs.2.1 8 = .ok (.aload_n 0, 1) := by decide +kernel
theorem dX6_joinPairs_9 : decode k_X6_joinPairs.2.1 9 = .ok (.getfield 9, 3) := by decide +kernel
theorem dX6_joinPairs_12 : decode k_X6_joinPairs.2.1 12 = .ok (.if_icmp .ge 89, 3) := by decide +kernel
theorem dX6_joinPairs_15 : decode k_X6_joinPairs.2.1 15 = .ok (.iload 5, 2) := by decide +kernel
theorem dX6_joinPairs_17 : decode k_X6_joinPairs.2.1 17 = .ok (.iconst 1, 1) := by decide +kernel
theorem dX6_joinPairs_18 : decode k_X6_joinPairs.2.1 18 = .ok (.iadd, 1) := by decide +kernel
theorem dX6_joinPairs_19 : decode k_X6_joinPairs.2.1 19 = .ok (.aload_n 0, 1) := by decide +kernel
theorem dX6_joinPairs_20 : decode k_X6_joinPairs.2.1 20 = .ok (.getfield 9, 3) := by decide +kernel
theorem dX6_joinPairs_23 : decode k_X6_joinPairs.2.1 23 = .ok (.if_icmp .ge 31, 3) := by decide +kernel
theorem dX6_joinPairs_26 : decode k_X6_joinPairs.2.1 26 = .ok (.aload_n 0, 1) := by decide +kernel
theorem dX6_joinPairs_27 : decode k_X6_joinPairs.2.1 27 = .ok (.getfield 15, 3) := by decide +kernel
theorem dX6_joinPairs_30 : decode k_X6_joinPairs.2.1 30 = .ok (.iload 5, 2) := by decide +kernel
theorem dX6_joinPairs_32 : decode k_X6_joinPairs.2.1 32 = .ok (.iaload, 1) := by decide +kernel
theorem dX6_joinPairs_33 : decode k_X6_joinPairs.2.1 33 = .ok (.iload_n 1, 1) := by decide +kernel
theorem dX6_joinPairs_34 : decode k_X6_joinPairs.2.1 34 = .ok (.if_icmp .ne 20, 3) := by decide +kernel
theorem dX6_joinPairs_37 : decode k_X6_joinPairs.2.1 37 = .ok (.aload_n 0, 1) := by decide +kernel
theorem dX6_joinPairs_38 : decode k_X6_joinPairs.2.1 38 = .ok (.getfield 15, 3) := by decide +kernel
theorem dX6_joinPairs_41 : decode k_X6_joinPairs.2.1 41 = .ok (.iload 5, 2) := by decide +kernel
theorem dX6_joinPairs_43 : decode k_X6_joinPairs.2.1 43 = .ok (.iconst 1, 1) := by decide +kernel
theorem dX6_joinPairs_44 : decode k_X6_joinPairs.2.1 44 = .ok (.iadd, 1) := by decide +kernel
theorem dX6_joinPairs_45 : decode k_X6_joinPairs.2.1 45 = .ok (.iaload, 1) := by decide +kernel
theorem dX6_joinPairs_46 : decode k_X6_joinPairs.2.1 46 = .ok (.iload_n 2, 1) := by decide +kernel
theorem dX6_joinPairs_47 : decode k_X6_joinPairs.2.1 47 = .ok (.if_icmp .ne 7, 3) := by decide +kernel
theorem dX6_joinPairs_50 : decode k_X6_joinPairs.2.1 50 = .ok (.iconst 1, 1) := by decide +kernel
theorem dX6_joinPairs_51 : decode k_X6_joinPairs.2.1 51 = .ok (.goto 4, 3) := by decide +kernel
theorem dX6_joinPairs_54 : decode k_X6_joinPairs.2.1 54 = .ok (.iconst 0, 1) := by decide +kernel
theorem dX6_joinPairs_55 : decode k_X6_joinPairs.2.1 55 = .ok (.istore 6, 2) := by decide +kernel
theorem dX6_joinPairs_57 : decode k_X6_joinPairs.2.1 57 = .ok (.aload_n 0, 1) := by decide +kernel
theorem dX6_joinPairs_58 : decode k_X6_joinPairs.2.1 58 = .ok (.getfield 15, 3) := by decide +kernel
theorem dX6_joinPairs_61 : decode k_X6_joinPairs.2.1 61 = .ok (.iload 4, 2) := by decide +kernel
theorem dX6_joinPairs_63 : decode k_X6_joinPairs.2.1 63 = .ok (.iload 6, 2) := by decide +kernel
theorem dX6_joinPairs_65 : decode k_X6_joinPairs.2.1 65 = .ok (.ifCond .eq 7, 3) := by decide +kernel
theorem dX6_joinPairs_68 : decode k_X6_joinPairs.2.1 68 = .ok (.iload_n 3, 1) := by decide +kernel
theorem dX6_joinPairs_69 : decode k_X6_joinPairs.2.1 69 = .ok (.goto 10, 3) := by decide +kernel
theorem dX6_joinPairs_72 : decode k_X6_joinPairs.2.1 72 = .ok (.aload_n 0, 1) := by decide +kernel
theorem dX6_joinPairs_73 : decode k_X6_joinPairs.2.1 73 = .ok (.getfield 15, 3) := by decide +kernel
theorem dX6_joinPairs_76 : decode k_X6_joinPairs.2.1 76 = .ok (.iload 5, 2) := by decide +kernel
theorem dX6_joinPairs_78 : decode k_X6_joinPairs.2.1 78 = .ok (.iaload, 1) := by decide +kernel
theorem dX6_joinPairs_79 : decode k_X6_joinPairs.2.1 79 = .ok (.iastore, 1) := by decide +kernel
theorem dX6_joinPairs_80 : decode k_X6_joinPairs.2.1 80 = .ok (.iinc 4 1, 3) := by decide +kernel
theorem dX6_joinPairs_83 : decode k_X6_joinPairs.2.1 83 = .ok (.iload 5, 2) := by decide +kernel
theorem dX6_joinPairs_85 : decode k_X6_joinPairs.2.1 85 = .ok (.iload 6, 2) := by decide +kernel
theorem dX6_joinPairs_87 : decode k_X6_joinPairs.2.1 87 = .ok (.ifCond .eq 7, 3) := by decide +kernel
theorem dX6_joinPairs_90 : decode k_X6_joinPairs.2.1 90 = .ok (.iconst 2, 1) := by decide +kernel
theorem dX6_joinPairs_91 : decode k_X6_joinPairs.2.1 91 = .ok (.goto 4, 3) := by decide +kernel
theorem dX6_joinPairs_94 : decode k_X6_joinPairs.2.1 94 = .ok (.iconst 1, 1) := by decide +kernel
theorem dX6_joinPairs_95 : decode k_X6_joinPairs.2.1 95 = .ok (.iadd, 1) := by decide +kernel
theorem dX6_joinPairs_96 : decode k_X6_joinPairs.2.1 96 = .ok (.istore 5, 2) := by decide +kernel
theorem dX6_joinPairs_98 : decode k_X6_joinPairs.2.1 98 = .ok (.goto (-92), 3) := by decide +kernel
theorem dX6_joinPairs_101 : decode k_X6_joinPairs.2.1 101 = .ok (.aload_n 0, 1) := by decide +kernel
theorem dX6_joinPairs_102 : decode k_X6_joinPairs.2.1 102 = .ok (.iload 4, 2) := by decide +kernel
theorem dX6_joinPairs_104 : decode k_X6_joinPairs.2.1 104 = .ok (.putfield 9, 3) := by decide +kernel
theorem dX6_joinPairs_107 : decode k_X6_joinPairs.2.1 107 = .ok (.return_, 1) := by decide +kernel
theorem dX6_spreadAll_0 : decode k_X6_spreadAll.2.1 0 = .ok (.aload_n 0, 1) := by decide +kernel
theorem dX6_spreadAll_1 : decode k_X6_spreadAll.2.1 1 = .ok (.getfield 9, 3) := by decide +kernel
theorem dX6_spreadAll_4 : decode k_X6_spreadAll.2.1 4 = .ok (.iconst 1, 1) := by decide +kernel
theorem dX6_spreadAll_5 : decode k_X6_spreadAll.2.1 5 = .ok (.isub, 1) := by decide +kernel
theorem dX6_spreadAll_6 : decode k_X6_spreadAll.2.1 6 = .ok (.istore_n 3, 1) := by decide +kernel
theorem dX6_spreadAll_7 : decode k_X6_spreadAll.2.1 7 = .ok (.iload_n 3, 1) := by decide +kernel
theorem dX6_spreadAll_8 : decode k_X6_spreadAll.2.1 8 = .ok (.ifCond .lt 25, 3) := by decide +kernel
theorem dX6_spreadAll_11 : decode k_X6_spreadAll.2.1 11 = .ok (.aload_n 0, 1) := by decide +kernel
theorem dX6_spreadAll_12 : decode k_X6_spreadAll.2.1 12 = .ok (.getfield 15, 3) := by decide +kernel
theorem dX6_spreadAll_15 : decode k_X6_spreadAll.2.1 15 = .ok (.iload_n 3, 1) := by decide +kernel
theorem dX6_spreadAll_16 : decode k_X6_spreadAll.2.1 16 = .ok (.iaload, 1) := by decide +kernel
theorem dX6_spreadAll_17 : decode k_X6_spreadAll.2.1 17 = .ok (.iload_n 1, 1) := by decide +kernel
theorem dX6_spreadAll_18 : decode k_X6_spreadAll.2.1 18 = .ok (.if_icmp .ne 9, 3) := by decide +kernel
theorem dX6_spreadAll_21 : decode k_X6_spreadAll.2.1 21 = .ok (.aload_n 0, 1) := by decide +kernel
theorem dX6_spreadAll_22 : decode k_X6_spreadAll.2.1 22 = .ok (.iload_n 3, 1) := by decide +kernel
theorem dX6_spreadAll_23 : decode k_X6_spreadAll.2.1 23 = .ok (.aload_n 2, 1) := by decide +kernel
theorem dX6_spreadAll_24 : decode k_X6_spreadAll.2.1 24 = .ok (.invokevirtual 30, 3) := by decide +kernel
theorem dX6_spreadAll_27 : decode k_X6_spreadAll.2.1 27 = .ok (.iinc 3 (-1), 3) := by decide +kernel
theorem dX6_spreadAll_30 : decode k_X6_spreadAll.2.1 30 = .ok (.goto (-23), 3) := by decide +kernel
theorem dX6_spreadAll_33 : decode k_X6_spreadAll.2.1 33 = .ok (.return_, 1) := by decide +kernel
theorem dX6_spreadAt_0 : decode k_X6_spreadAt.2.1 0 = .ok (.iload_n 1, 1) := by decide +kernel
theorem dX6_spreadAt_1 : decode k_X6_spreadAt.2.1 1 = .ok (.ifCond .lt 30, 3) := by decide +kernel
theorem dX6_spreadAt_4 : decode k_X6_spreadAt.2.1 4 = .ok (.iload_n 1, 1) := by decide +kernel
theorem dX6_spreadAt_5 : decode k_X6_spreadAt.2.1 5 = .ok (.aload_n 0, 1) := by decide +kernel
theorem dX6_spreadAt_6 : decode k_X6_spreadAt.2.1 6 = .ok (.getfield 9, 3) := by decide +kernel
theorem dX6_spreadAt_9 : decode k_X6_spreadAt.2.1 9 = .ok (.if_icmp .ge 22, 3) := by decide +kernel
theorem dX6_spreadAt_12 : decode k_X6_spreadAt.2.1 12 = .ok (.aload_n 2, 1) := by decide +kernel
theorem dX6_spreadAt_13 : decode k_X6_spreadAt.2.1 13 = .ok (.getfield 9, 3) := by decide +kernel
theorem dX6_spreadAt_16 : decode k_X6_spreadAt.2.1 16 = .ok (.aload_n 0, 1) := by decide +kernel
theorem dX6_spreadAt_17 : decode k_X6_spreadAt.2.1 17 = .ok (.getfield 15, 3) := by decide +kernel
theorem dX6_spreadAt_20 : decode k_X6_spreadAt.2.1 20 = .ok (.arraylength, 1) := by decide +kernel
theorem dX6_spreadAt_21 : decode k_X6_spreadAt.2.1 21 = .ok (.aload_n 0, 1) := by decide +kernel
theorem dX6_spreadAt_22 : decode k_X6_spreadAt.2.1 22 = .ok (.getfield 9, 3) := by decide +kernel
theorem dX6_spreadAt_25 : decode k_X6_spreadAt.2.1 25 = .ok (.isub, 1) := by decide +kernel
theorem dX6_spreadAt_26 : decode k_X6_spreadAt.2.1 26 = .ok (.iconst 1, 1) := by decide +kernel
theorem dX6_spreadAt_27 : decode k_X6_spreadAt.2.1 27 = .ok (.iadd, 1) := by decide +kernel
theorem dX6_spreadAt_28 : decode k_X6_spreadAt.2.1 28 = .ok (.if_icmp .le 4, 3) := by decide +kernel
theorem dX6_spreadAt_31 : decode k_X6_spreadAt.2.1 31 = .ok (.return_, 1) := by decide +kernel
theorem dX6_spreadAt_32 : decode k_X6_spreadAt.2.1 32 = .ok (.aload_n 0, 1) := by decide +kernel
theorem dX6_spreadAt_33 : decode k_X6_spreadAt.2.1 33 = .ok (.iload_n 1, 1) := by decide +kernel
theorem dX6_spreadAt_34 : decode k_X6_spreadAt.2.1 34 = .ok (.iconst 1, 1) := by decide +kernel
theorem dX6_spreadAt_35 : decode k_X6_spreadAt.2.1 35 = .ok (.iadd, 1) := by decide +kernel
theorem dX6_spreadAt_36 : decode k_X6_spreadAt.2.1 36 = .ok (.iload_n 1, 1) := by decide +kernel
theorem dX6_spreadAt_37 : decode k_X6_spreadAt.2.1 37 = .ok (.aload_n 2, 1) := by decide +kernel
theorem dX6_spreadAt_38 : decode k_X6_spreadAt.2.1 38 = .ok (.getfield 9, 3) := by decide +kernel
theorem dX6_spreadAt_41 : decode k_X6_spreadAt.2.1 41 = .ok (.iadd, 1) := by decide +kernel
theorem dX6_spreadAt_42 : decode k_X6_spreadAt.2.1 42 = .ok (.invokevirtual 19, 3) := by decide +kernel
theorem dX6_spreadAt_45 : decode k_X6_spreadAt.2.1 45 = .ok (.iconst 0, 1) := by decide +kernel
theorem dX6_spreadAt_46 : decode k_X6_spreadAt.2.1 46 = .ok (.istore_n 3, 1) := by decide +kernel
theorem dX6_spreadAt_47 : decode k_X6_spreadAt.2.1 47 = .ok (.iload_n 3, 1) := by decide +kernel
theorem dX6_spreadAt_48 : decode k_X6_spreadAt.2.1 48 = .ok (.aload_n 2, 1) := by decide +kernel
theorem dX6_spreadAt_49 : decode k_X6_spreadAt.2.1 49 = .ok (.getfield 9, 3) := by decide +kernel
theorem dX6_spreadAt_52 : decode k_X6_spreadAt.2.1 52 = .ok (.if_icmp .ge 23, 3) := by decide +kernel
theorem dX6_spreadAt_55 : decode k_X6_spreadAt.2.1 55 = .ok (.aload_n 0, 1) := by decide +kernel
theorem dX6_spreadAt_56 : decode k_X6_spreadAt.2.1 56 = .ok (.getfield 15, 3) := by decide +kernel
theorem dX6_spreadAt_59 : decode k_X6_spreadAt.2.1 59 = .ok (.iload_n 1, 1) := by decide +kernel
theorem dX6_spreadAt_60 : decode k_X6_spreadAt.2.1 60 = .ok (.iload_n 3, 1) := by decide +kernel
theorem dX6_spreadAt_61 : decode k_X6_spreadAt.2.1 61 = .ok (.iadd, 1) := by decide +kernel
theorem dX6_spreadAt_62 : decode k_X6_spreadAt.2.1 62 = .ok (.aload_n 2, 1) := by decide +kernel
theorem dX6_spreadAt_63 : decode k_X6_spreadAt.2.1 63 = .ok (.getfield 15, 3) := by decide +kernel
theorem dX6_spreadAt_66 : decode k_X6_spreadAt.2.1 66 = .ok (.iload_n 3, 1) := by decide +kernel
theorem dX6_spreadAt_67 : decode k_X6_spreadAt.2.1 67 = .ok (.iaload, 1) := by decide +kernel
theorem dX6_spreadAt_68 : decode k_X6_spreadAt.2.1 68 = .ok (.iastore, 1) := by decide +kernel
theorem dX6_spreadAt_69 : decode k_X6_spreadAt.2.1 69 = .ok (.iinc 3 1, 3) := by decide +kernel
theorem dX6_spreadAt_72 : decode k_X6_spreadAt.2.1 72 = .ok (.goto (-25), 3) := by decide +kernel
theorem dX6_spreadAt_75 : decode k_X6_spreadAt.2.1 75 = .ok (.return_, 1) := by decide +kernel
theorem dX6_moveTail_0 : decode k_X6_moveTail.2.1 0 = .ok (.iload_n 1, 1) := by decide +kernel
theorem dX6_moveTail_1 : decode k_X6_moveTail.2.1 1 = .ok (.ifCond .lt 31, 3) := by decide +kernel
theorem dX6_moveTail_4 : decode k_X6_moveTail.2.1 4 = .ok (.iload_n 1, 1) := by decide +kernel
theorem dX6_moveTail_5 : decode k_X6_moveTail.2.1 5 = .ok (.aload_n 0, 1) := by decide +kernel
theorem dX6_moveTail_6 : decode k_X6_moveTail.2.1 6 = .ok (.getfield 9, 3) := by decide +kernel
theorem dX6_moveTail_9 : decode k_X6_moveTail.2.1 9 = .ok (.if_icmp .gt 23, 3) := by decide +kernel
theorem dX6_moveTail_12 : decode k_X6_moveTail.2.1 12 = .ok (.iload_n 2, 1) := by decide +kernel
theorem dX6_moveTail_13 : decode k_X6_moveTail.2.1 13 = .ok (.ifCond .lt 19, 3) := by decide +kernel
theorem dX6_moveTail_16 : decode k_X6_moveTail.2.1 16 = .ok (.iload_n 2, 1) := by decide +kernel
theorem dX6_moveTail_17 : decode k_X6_moveTail.2.1 17 = .ok (.aload_n 0, 1) := by decide +kernel
theorem dX6_moveTail_18 : decode k_X6_moveTail.2.1 18 = .ok (.getfield 15, 3) := by decide +kernel
theorem dX6_moveTail_21 : decode k_X6_moveTail.2.1 21 = .ok (.arraylength, 1) := by decide +kernel
theorem dX6_moveTail_22 : decode k_X6_moveTail.2.1 22 = .ok (.aload_n 0, 1) := by decide +kernel
theorem dX6_moveTail_23 : decode k_X6_moveTail.2.1 23 = .ok (.getfield 9, 3) := by decide +kernel
theorem dX6_moveTail_26 : decode k_X6_moveTail.2.1 26 = .ok (.iload_n 1, 1) := by decide +kernel
theorem dX6_moveTail_27 : decode k_X6_moveTail.2.1 27 = .ok (.isub, 1) := by decide +kernel
theorem dX6_moveTail_28 : decode k_X6_moveTail.2.1 28 = .ok (.isub, 1) := by decide +kernel
theorem dX6_moveTail_29 : decode k_X6_moveTail.2.1 29 = .ok (.if_icmp .le 4, 3) := by decide +kernel
theorem dX6_moveTail_32 : decode k_X6_moveTail.2.1 32 = .ok (.return_, 1) := by decide +kernel
theorem dX6_moveTail_33 : decode k_X6_moveTail.2.1 33 = .ok (.aload_n 0, 1) := by decide +kernel
theorem dX6_moveTail_34 : decode k_X6_moveTail.2.1 34 = .ok (.getfield 15, 3) := by decide +kernel
theorem dX6_moveTail_37 : decode k_X6_moveTail.2.1 37 = .ok (.iload_n 1, 1) := by decide +kernel
theorem dX6_moveTail_38 : decode k_X6_moveTail.2.1 38 = .ok (.aload_n 0, 1) := by decide +kernel
theorem dX6_moveTail_39 : decode k_X6_moveTail.2.1 39 = .ok (.getfield 15, 3) := by decide +kernel
theorem dX6_moveTail_42 : decode k_X6_moveTail.2.1 42 = .ok (.iload_n 2, 1) := by decide +kernel
theorem dX6_moveTail_43 : decode k_X6_moveTail.2.1 43 = .ok (.aload_n 0, 1) := by decide +kernel
theorem dX6_moveTail_44 : decode k_X6_moveTail.2.1 44 = .ok (.getfield 9, 3) := by decide +kernel
theorem dX6_moveTail_47 : decode k_X6_moveTail.2.1 47 = .ok (.iload_n 1, 1) := by decide +kernel
theorem dX6_moveTail_48 : decode k_X6_moveTail.2.1 48 = .ok (.isub, 1) := by decide +kernel
theorem dX6_moveTail_49 : decode k_X6_moveTail.2.1 49 = .ok (.invokestatic 34, 3) := by decide +kernel
theorem dX6_moveTail_52 : decode k_X6_moveTail.2.1 52 = .ok (.aload_n 0, 1) := by decide +kernel
theorem dX6_moveTail_53 : decode k_X6_moveTail.2.1 53 = .ok (.dup, 1) := by decide +kernel
theorem dX6_moveTail_54 : decode k_X6_moveTail.2.1 54 = .ok (.getfield 9, 3) := by decide +kernel
theorem dX6_moveTail_57 : decode k_X6_moveTail.2.1 57 = .ok (.iload_n 2, 1) := by decide +kernel
theorem dX6_moveTail_58 : decode k_X6_moveTail.2.1 58 = .ok (.iload_n 1, 1) := by decide +kernel
theorem dX6_moveTail_59 : decode k_X6_moveTail.2.1 59 = .ok (.isub, 1) := by decide +kernel
theorem dX6_moveTail_60 : decode k_X6_moveTail.2.1 60 = .ok (.iadd, 1) := by decide +kernel
theorem dX6_moveTail_61 : decode k_X6_moveTail.2.1 61 = .ok (.putfield 9, 3) := by decide +kernel
theorem dX6_moveTail_64 : decode k_X6_moveTail.2.1 64 = .ok (.return_, 1) := by decide +kernel
theorem dX7_init_0 : decode k_X7_init.2.1 0 = .ok (.aload_n 0, 1) := by decide +kernel
theorem dX7_init_1 : decode k_X7_init.2.1 1 = .ok (.invokespecial 3, 3) := by decide +kernel
theorem dX7_init_4 : decode k_X7_init.2.1 4 = .ok (.aload_n 0, 1) := by decide +kernel
theorem dX7_init_5 : decode k_X7_init.2.1 5 = .ok (.new 9, 3) := by decide +kernel
theorem dX7_init_8 : decode k_X7_init.2.1 8 = .ok (.dup, 1) := by decide +kernel
theorem dX7_init_9 : decode k_X7_init.2.1 9 = .ok (.invokespecial 11, 3) := by decide +kernel
theorem dX7_init_12 : decode k_X7_init.2.1 12 = .ok (.putfield 12, 3) := by decide +kernel
theorem dX7_init_15 : decode k_X7_init.2.1 15 = .ok (.aload_n 0, 1) := by decide +kernel
theorem dX7_init_16 : decode k_X7_init.2.1 16 = .ok (.new 9, 3) := by decide +kernel
theorem dX7_init_19 : decode k_X7_init.2.1 19 = .ok (.dup, 1) := by decide +kernel
theorem dX7_init_20 : decode k_X7_init.2.1 20 = .ok (.invokespecial 11, 3) := by decide +kernel
theorem dX7_init_23 : decode k_X7_init.2.1 23 = .ok (.putfield 18, 3) := by decide +kernel
theorem dX7_init_26 : decode k_X7_init.2.1 26 = .ok (.aload_n 0, 1) := by decide +kernel
theorem dX7_init_27 : decode k_X7_init.2.1 27 = .ok (.sipush 7396, 3) := by decide +kernel
theorem dX7_init_30 : decode k_X7_init.2.1 30 = .ok (.newarray .boolean, 2) := by decide +kernel
theorem dX7_init_32 : decode k_X7_init.2.1 32 = .ok (.putfield 21, 3) := by decide +kernel
theorem dX7_init_35 : decode k_X7_init.2.1 35 = .ok (.aload_n 0, 1) := by decide +kernel
theorem dX7_init_36 : decode k_X7_init.2.1 36 = .ok (.new 25, 3) := by decide +kernel
theorem dX7_init_39 : decode k_X7_init.2.1 39 = .ok (.dup, 1) := by decide +kernel
theorem dX7_init_40 : decode k_X7_init.2.1 40 = .ok (.sipush 240, 3) := by decide +kernel
theorem dX7_init_43 : decode k_X7_init.2.1 43 = .ok (.invokespecial 27, 3) := by decide +kernel
theorem dX7_init_46 : decode k_X7_init.2.1 46 = .ok (.putfield 30, 3) := by decide +kernel
theorem dX7_init_49 : decode k_X7_init.2.1 49 = .ok (.return_, 1) := by decide +kernel
theorem dX7_leastSize_0 : decode k_X7_leastSize.2.1 0 = .ok (.aload_n 1, 1) := by decide +kernel
theorem dX7_leastSize_1 : decode k_X7_leastSize.2.1 1 = .ok (.invokevirtual 34, 3) := by decide +kernel
theorem dX7_leastSize_4 : decode k_X7_leastSize.2.1 4 = .ok (.istore_n 3, 1) := by decide +kernel
theorem dX7_leastSize_5 : decode k_X7_leastSize.2.1 5 = .ok (.iload_n 2, 1) := by decide +kernel
theorem dX7_leastSize_6 : decode k_X7_leastSize.2.1 6 = .ok (.iconst 1, 1) := by decide +kernel
theorem dX7_leastSize_7 : decode k_X7_leastSize.2.1 7 = .ok (.if_icmp .ge 5, 3) := by decide +kernel
theorem dX7_leastSize_10 : decode k_X7_leastSize.2.1 10 = .ok (.iload_n 3, 1) := by decide +kernel
theorem dX7_leastSize_11 : decode k_X7_leastSize.2.1 11 = .ok (.ireturn, 1) := by decide +kernel
theorem dX7_leastSize_12 : decode k_X7_leastSize.2.1 12 = .ok (.bipush 60, 2) := by decide +kernel
theorem dX7_leastSize_14 : decode k_X7_leastSize.2.1 14 = .ok (.aload_n 1, 1) := by decide +kernel
theorem dX7_leastSize_15 : decode k_X7_leastSize.2.1 15 = .ok (.invokevirtual 40, 3) := by decide +kernel
theorem dX7_leastSize_18 : decode k_X7_leastSize.2.1 18 = .ok (.isub, 1) := by decide +kernel
theorem dX7_leastSize_19 : decode k_X7_leastSize.2.1 19 = .ok (.istore 4, 2) := by decide +kernel
theorem dX7_leastSize_21 : decode k_X7_leastSize.2.1 21 = .ok (.aload_n 0, 1) := by decide +kernel
theorem dX7_leastSize_22 : decode k_X7_leastSize.2.1 22 = .ok (.aload_n 1, 1) := by decide +kernel
theorem dX7_leastSize_23 : decode k_X7_leastSize.2.1 23 = .ok (.iconst 1, 1) := by decide +kernel
theorem dX7_leastSize_24 : decode k_X7_leastSize.2.1 24 = .ok (.invokevirtual 43, 3) := by decide +kernel
theorem dX7_leastSize_27 : decode k_X7_leastSize.2.1 27 = .ok (.aload_n 0, 1) := by decide +kernel
theorem dX7_leastSize_28 : decode k_X7_leastSize.2.1 28 = .ok (.getfield 12, 3) := by decide +kernel
theorem dX7_leastSize_31 : decode k_X7_leastSize.2.1 31 = .ok (.aload_n 1, 1) := by decide +kernel
theorem dX7_leastSize_32 : decode k_X7_leastSize.2.1 32 = .ok (.invokevirtual 47, 3) := by decide +kernel
theorem dX7_leastSize_35 : decode k_X7_leastSize.2.1 35 = .ok (.invokevirtual 51, 3) := by decide +kernel
theorem dX7_leastSize_38 : decode k_X7_leastSize.2.1 38 = .ok (.iload_n 3, 1) := by decide +kernel
theorem dX7_leastSize_39 : decode k_X7_leastSize.2.1 39 = .ok (.iload_n 3, 1) := by decide +kernel
theorem dX7_leastSize_40 : decode k_X7_leastSize.2.1 40 = .ok (.aload_n 0, 1) := by decide +kernel
theorem dX7_leastSize_41 : decode k_X7_leastSize.2.1 41 = .ok (.aload_n 0, 1) := by decide +kernel
theorem dX7_leastSize_42 : decode k_X7_leastSize.2.1 42 = .ok (.getfield 12, 3) := by decide +kernel
theorem dX7_leastSize_45 : decode k_X7_leastSize.2.1 45 = .ok (.iload 4, 2) := by decide +kernel
theorem dX7_leastSize_47 : decode k_X7_leastSize.2.1 47 = .ok (.invokevirtual 55, 3) := by decide +kernel
theorem dX7_leastSize_50 : decode k_X7_leastSize.2.1 50 = .ok (.isub, 1) := by decide +kernel
theorem dX7_leastSize_51 : decode k_X7_leastSize.2.1 51 = .ok (.invokestatic 59, 3) := by decide +kernel
theorem dX7_leastSize_54 : decode k_X7_leastSize.2.1 54 = .ok (.istore 5, 2) := by decide +kernel
theorem dX7_leastSize_56 : decode k_X7_leastSize.2.1 56 = .ok (.iload_n 2, 1) := by decide +kernel
theorem dX7_leastSize_57 : decode k_X7_leastSize.2.1 57 = .ok (.iconst 1, 1) := by decide +kernel
theorem dX7_leastSize_58 : decode k_X7_leastSize.2.1 58 = .ok (.if_icmp .le 48, 3) := by decide +kernel
theorem dX7_leastSize_61 : decode k_X7_leastSize.2.1 61 = .ok (.iconst 0, 1) := by decide +kernel
theorem dX7_leastSize_62 : decode k_X7_leastSize.2.1 62 = .ok (.istore 6, 2) := by decide +kernel
theorem dX7_leastSize_64 : decode k_X7_leastSize.2.1 64 = .ok (.iload 6, 2) := by decide +kernel
theorem dX7_leastSize_66 : decode k_X7_leastSize.2.1 66 = .ok (.aload_n 0, 1) := by decide +kernel
theorem dX7_leastSize_67 : decode k_X7_leastSize.2.1 67 = .ok (.getfield 12, 3) := by decide +kernel
theorem dX7_leastSize_70 : decode k_X7_leastSize.2.1 70 = .ok (.invokevirtual 65, 3) := by decide +kernel
theorem dX7_leastSize_73 : decode k_X7_leastSize.2.1 73 = .ok (.if_icmp .ge 33, 3) := by decide +kernel
theorem dX7_leastSize_76 : decode k_X7_leastSize.2.1 76 = .ok (.iload 5, 2) := by decide +kernel
theorem dX7_leastSize_78 : decode k_X7_leastSize.2.1 78 = .ok (.aload_n 0, 1) := by decide +kernel
theorem dX7_leastSize_79 : decode k_X7_leastSize.2.1 79 = .ok (.aload_n 1, 1) := by decide +kernel
theorem dX7_leastSize_80 : decode k_X7_leastSize.2.1 80 = .ok (.aload_n 0, 1) := by decide +kernel
theorem dX7_leastSize_81 : decode k_X7_leastSize.2.1 81 = .ok (.getfield 12, 3) := by decide +kernel
theorem dX7_leastSize_84 : decode k_X7_leastSize.2.1 84 = .ok (.iload 6, 2) := by decide +kernel
theorem dX7_leastSize_86 : decode k_X7_leastSize.2.1 86 = .ok (.invokevirtual 68, 3) := by decide +kernel
theorem dX7_leastSize_89 : decode k_X7_leastSize.2.1 89 = .ok (.iload_n 3, 1) := by decide +kernel
theorem dX7_leastSize_90 : decode k_X7_leastSize.2.1 90 = .ok (.iload 4, 2) := by decide +kernel
theorem dX7_leastSize_92 : decode k_X7_leastSize.2.1 92 = .ok (.invokevirtual 72, 3) := by decide +kernel
theorem dX7_leastSize_95 : decode k_X7_leastSize.2.1 95 = .ok (.invokestatic 59, 3) := by decide +kernel
theorem dX7_leastSize_98 : decode k_X7_leastSize.2.1 98 = .ok (.istore 5, 2) := by decide +kernel
theorem dX7_leastSize_100 : decode k_X7_leastSize.2.1 100 = .ok (.iinc 6 1, 3) := by decide +kernel
theorem dX7_leastSize_103 : decode k_X7_leastSize.2.1 103 = .ok (.goto (-39), 3) := by decide +kernel
theorem dX7_leastSize_106 : decode k_X7_leastSize.2.1 106 = .ok (.aload_n 0, 1) := by decide +kernel
theorem dX7_leastSize_107 : decode k_X7_leastSize.2.1 107 = .ok (.aload_n 1, 1) := by decide +kernel
theorem dX7_leastSize_108 : decode k_X7_leastSize.2.1 108 = .ok (.iconst 0, 1) := by decide +kernel
theorem dX7_leastSize_109 : decode k_X7_leastSize.2.1 109 = .ok (.invokevirtual 43, 3) := by decide +kernel
theorem dX7_leastSize_112 : decode k_X7_leastSize.2.1 112 = .ok (.iload 5, 2) := by decide +kernel
theorem dX7_leastSize_114 : decode k_X7_leastSize.2.1 114 = .ok (.ireturn, 1) := by decide +kernel
theorem dX7_markRules_0 : decode k_X7_markRules.2.1 0 = .ok (.bipush 26, 2) := by decide +kernel
theorem dX7_markRules_2 : decode k_X7_markRules.2.1 2 = .ok (.istore_n 3, 1) := by decide +kernel
theorem dX7_markRules_3 : decode k_X7_markRules.2.1 3 = .ok (.iload_n 3, 1) := by decide +kernel
theorem dX7_markRules_4 : decode k_X7_markRules.2.1 4 = .ok (.bipush 86, 2) := by decide +kernel
theorem dX7_markRules_6 : decode k_X7_markRules.2.1 6 = .ok (.if_icmp .ge 65, 3) := by decide +kernel
theorem dX7_markRules_9 : decode k_X7_markRules.2.1 9 = .ok (.aload_n 1, 1) := by decide +kernel
theorem dX7_markRules_10 : decode k_X7_markRules.2.1 10 = .ok (.iload_n 3, 1) := by decide +kernel
theorem dX7_markRules_11 : decode k_X7_markRules.2.1 11 = .ok (.invokevirtual 76, 3) := by decide +kernel
theorem dX7_markRules_14 : decode k_X7_markRules.2.1 14 = .ok (.astore 4, 2) := by decide +kernel
theorem dX7_markRules_16 : decode k_X7_markRules.2.1 16 = .ok (.aload 4, 2) := by decide +kernel
theorem dX7_markRules_18 : decode k_X7_markRules.2.1 18 = .ok (.invokevirtual 80, 3) := by decide +kernel
theorem dX7_markRules_21 : decode k_X7_markRules.2.1 21 = .ok (.iconst 2, 1) := by decide +kernel
theorem dX7_markRules_22 : decode k_X7_markRules.2.1 22 = .ok (.if_icmp .ne 43, 3) := by decide +kernel
theorem dX7_markRules_25 : decode k_X7_markRules.2.1 25 = .ok (.aload 4, 2) := by decide +kernel
theorem dX7_markRules_27 : decode k_X7_markRules.2.1 27 = .ok (.iconst 0, 1) := by decide +kernel
theorem dX7_markRules_28 : decode k_X7_markRules.2.1 28 = .ok (.invokevirtual 81, 3) := by decide +kernel
theorem dX7_markRules_31 : decode k_X7_markRules.2.1 31 = .ok (.aload 4, 2) := by decide +kernel
theorem dX7_markRules_33 : decode k_X7_markRules.2.1 33 = .ok (.iconst 1, 1) := by decide +kernel
theorem dX7_markRules_34 : decode k_X7_markRules.2.1 34 = .ok (.invokevirtual 81, 3) := by decide +kernel
theorem dX7_markRules_37 : decode k_X7_markRules.2.1 37 = .ok (.invokestatic 84, 3) := by decide +kernel
theorem dX7_markRules_40 : decode k_X7_markRules.2.1 40 = .ok (.istore 5, 2) := by decide +kernel
theorem dX7_markRules_42 : decode k_X7_markRules.2.1 42 = .ok (.iload 5, 2) := by decide +kernel
theorem dX7_markRules_44 : decode k_X7_markRules.2.1 44 = .ok (.ifCond .lt 21, 3) := by decide +kernel
theorem dX7_markRules_47 : decode k_X7_markRules.2.1 47 = .ok (.iload 5, 2) := by decide +kernel
theorem dX7_markRules_49 : decode k_X7_markRules.2.1 49 = .ok (.aload_n 0, 1) := by decide +kernel
theorem dX7_markRules_50 : decode k_X7_markRules.2.1 50 = .ok (.getfield 21, 3) := by decide +kernel
theorem dX7_markRules_53 : decode k_X7_markRules.2.1 53 = .ok (.arraylength, 1) := by decide +kernel
theorem dX7_markRules_54 : decode k_X7_markRules.2.1 54 = .ok (.if_icmp .ge 11, 3) := by decide +kernel
theorem dX7_markRules_57 : decode k_X7_markRules.2.1 57 = .ok (.aload_n 0, 1) := by decide +kernel
theorem dX7_markRules_58 : decode k_X7_markRules.2.1 58 = .ok (.getfield 21, 3) := by decide +kernel
theorem dX7_markRules_61 : decode k_X7_markRules.2.1 61 = .ok (.iload 5, 2) := by decide +kernel
theorem dX7_markRules_63 : decode k_X7_markRules.2.1 63 = .ok (.iload_n 2, 1) := by decide +kernel
theorem dX7_markRules_64 : decode k_X7_markRules.2.1 64 = .ok (.bastore, 1) := by decide +kernel
theorem dX7_markRules_65 : decode k_X7_markRules.2.1 65 = .ok (.iinc 3 1, 3) := by decide +kernel
theorem dX7_markRules_68 : decode k_X7_markRules.2.1 68 = .ok (.goto (-65), 3) := by decide +kernel
theorem dX7_markRules_71 : decode k_X7_markRules.2.1 71 = .ok (.return_, 1) := by decide +kernel
theorem dX7_isRuled_0 : decode k_X7_isRuled.2.1 0 = .ok (.iload_n 1, 1) := by decide +kernel
theorem dX7_isRuled_1 : decode k_X7_isRuled.2.1 1 = .ok (.ifCond .lt 25, 3) := by decide +kernel
theorem dX7_isRuled_4 : decode k_X7_isRuled.2.1 4 = .ok (.iload_n 1, 1) := by decide +kernel
theorem dX7_isRuled_5 : decode k_X7_isRuled.2.1 5 = .ok (.aload_n 0, 1) := by decide +kernel
theorem dX7_isRuled_6 : decode k_X7_isRuled.2.1 6 = .ok (.getfield 21, 3) := by decide +kernel
theorem dX7_isRuled_9 : decode k_X7_isRuled.2.1 9 = .ok (.arraylength, 1) := by decide +kernel
theorem dX7_isRuled_10 : decode k_X7_isRuled.2.1 10 = .ok (.if_icmp .ge 16, 3) := by decide +kernel
theorem dX7_isRuled_13 : decode k_X7_isRuled.2.1 13 = .ok (.aload_n 0, 1) := by decide +kernel
theorem dX7_isRuled_14 : decode k_X7_isRuled.2.1 14 = .ok (.getfield 21, 3) := by decide +kernel
theorem dX7_isRuled_17 : decode k_X7_isRuled.2.1 17 = .ok (.iload_n 1, 1) := by decide +kernel
theorem dX7_isRuled_18 : decode k_X7_isRuled.2.1 18 = .ok (.baload, 1) := by decide +kernel
theorem dX7_isRuled_19 : decode k_X7_isRuled.2.1 19 = .ok (.ifCond .eq 7, 3) := by decide +kernel
theorem dX7_isRuled_22 : decode k_X7_isRuled.2.1 22 = .ok (.iconst 1, 1) := by decide +kernel
theorem dX7_isRuled_23 : decode k_X7_isRuled.2.1 23 = .ok (.goto 4, 3) := by decide +kernel
theorem dX7_isRuled_26 : decode k_X7_isRuled.2.1 26 = .ok (.iconst 0, 1) := by decide +kernel
theorem dX7_isRuled_27 : decode k_X7_isRuled.2.1 27 = .ok (.ireturn, 1) := by decide +kernel
theorem dX7_gainOf_0 : decode k_X7_gainOf.2.1 0 = .ok (.aload_n 1, 1) := by decide +kernel
theorem dX7_gainOf_1 : decode k_X7_gainOf.2.1 1 = .ok (.iload_n 2, 1) := by decide +kernel
theorem dX7_gainOf_2 : decode k_X7_gainOf.2.1 2 = .ok (.invokevirtual 87, 3) := by decide +kernel
theorem dX7_gainOf_5 : decode k_X7_gainOf.2.1 5 = .ok (.istore_n 3, 1) := by decide +kernel
theorem dX7_gainOf_6 : decode k_X7_gainOf.2.1 6 = .ok (.aload_n 0, 1) := by decide +kernel
theorem dX7_gainOf_7 : decode k_X7_gainOf.2.1 7 = .ok (.iload_n 2, 1) := by decide +kernel
theorem dX7_gainOf_8 : decode k_X7_gainOf.2.1 8 = .ok (.invokevirtual 90, 3) := by decide +kernel
theorem dX7_gainOf_11 : decode k_X7_gainOf.2.1 11 = .ok (.ifCond .eq 7, 3) := by decide +kernel
theorem dX7_gainOf_14 : decode k_X7_gainOf.2.1 14 = .ok (.iload_n 3, 1) := by decide +kernel
theorem dX7_gainOf_15 : decode k_X7_gainOf.2.1 15 = .ok (.goto 6, 3) := by decide +kernel
theorem dX7_gainOf_18 : decode k_X7_gainOf.2.1 18 = .ok (.iload_n 3, 1) := by decide +kernel
theorem dX7_gainOf_19 : decode k_X7_gainOf.2.1 19 = .ok (.iconst 2, 1) := by decide +kernel
theorem dX7_gainOf_20 : decode k_X7_gainOf.2.1 20 = .ok (.isub, 1) := by decide +kernel
theorem dX7_gainOf_21 : decode k_X7_gainOf.2.1 21 = .ok (.ireturn, 1) := by decide +kernel
theorem dX7_greatestGain_0 : decode k_X7_greatestGain.2.1 0 = .ok (.iconst 0, 1) := by decide +kernel
theorem dX7_greatestGain_1 : decode k_X7_greatestGain.2.1 1 = .ok (.istore_n 3, 1) := by decide +kernel
theorem dX7_greatestGain_2 : decode k_X7_greatestGain.2.1 2 = .ok (.iconst 0, 1) := by decide +kernel
theorem dX7_greatestGain_3 : decode k_X7_greatestGain.2.1 3 = .ok (.istore 4, 2) := by decide +kernel
theorem dX7_greatestGain_5 : decode k_X7_greatestGain.2.1 5 = .ok (.iload 4, 2) := by decide +kernel
theorem dX7_greatestGain_7 : decode k_X7_greatestGain.2.1 7 = .ok (.aload_n 1, 1) := by decide +kernel
theorem dX7_greatestGain_8 : decode k_X7_greatestGain.2.1 8 = .ok (.invokevirtual 65, 3) := by decide +kernel
theorem dX7_greatestGain_11 : decode k_X7_greatestGain.2.1 11 = .ok (.if_icmp .ge 42, 3) := by decide +kernel
theorem dX7_greatestGain_14 : decode k_X7_greatestGain.2.1 14 = .ok (.aload_n 1, 1) := by decide +kernel
