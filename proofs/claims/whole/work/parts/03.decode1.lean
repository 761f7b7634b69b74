theorem dX0_init_0 : decode cX0_init 0 = .ok (.aload_n 0, 1) := by decide +kernel
theorem dX0_init_1 : decode cX0_init 1 = .ok (.invokespecial 3, 3) := by decide +kernel
theorem dX0_init_4 : decode cX0_init 4 = .ok (.aload_n 0, 1) := by decide +kernel
theorem dX0_init_5 : decode cX0_init 5 = .ok (.bipush 86, 2) := by decide +kernel
theorem dX0_init_7 : decode cX0_init 7 = .ok (.newarray .int, 2) := by decide +kernel
theorem dX0_init_9 : decode cX0_init 9 = .ok (.putfield 9, 3) := by decide +kernel
theorem dX0_init_12 : decode cX0_init 12 = .ok (.aload_n 0, 1) := by decide +kernel
theorem dX0_init_13 : decode cX0_init 13 = .ok (.bipush 86, 2) := by decide +kernel
theorem dX0_init_15 : decode cX0_init 15 = .ok (.newarray .int, 2) := by decide +kernel
theorem dX0_init_17 : decode cX0_init 17 = .ok (.putfield 15, 3) := by decide +kernel
theorem dX0_init_20 : decode cX0_init 20 = .ok (.aload_n 0, 1) := by decide +kernel
theorem dX0_init_21 : decode cX0_init 21 = .ok (.bipush 86, 2) := by decide +kernel
theorem dX0_init_23 : decode cX0_init 23 = .ok (.newarray .int, 2) := by decide +kernel
theorem dX0_init_25 : decode cX0_init 25 = .ok (.putfield 18, 3) := by decide +kernel
theorem dX0_init_28 : decode cX0_init 28 = .ok (.aload_n 0, 1) := by decide +kernel
theorem dX0_init_29 : decode cX0_init 29 = .ok (.bipush 86, 2) := by decide +kernel
theorem dX0_init_31 : decode cX0_init 31 = .ok (.newarray .int, 2) := by decide +kernel
theorem dX0_init_33 : decode cX0_init 33 = .ok (.putfield 21, 3) := by decide +kernel
theorem dX0_init_36 : decode cX0_init 36 = .ok (.aload_n 0, 1) := by decide +kernel
theorem dX0_init_37 : decode cX0_init 37 = .ok (.bipush 86, 2) := by decide +kernel
theorem dX0_init_39 : decode cX0_init 39 = .ok (.newarray .int, 2) := by decide +kernel
theorem dX0_init_41 : decode cX0_init 41 = .ok (.putfield 24, 3) := by decide +kernel
theorem dX0_init_44 : decode cX0_init 44 = .ok (.aload_n 0, 1) := by decide +kernel
theorem dX0_init_45 : decode cX0_init 45 = .ok (.new 27, 3) := by decide +kernel
theorem dX0_init_48 : decode cX0_init 48 = .ok (.dup, 1) := by decide +kernel
theorem dX0_init_49 : decode cX0_init 49 = .ok (.bipush 86, 2) := by decide +kernel
theorem dX0_init_51 : decode cX0_init 51 = .ok (.invokespecial 29, 3) := by decide +kernel
theorem dX0_init_54 : decode cX0_init 54 = .ok (.putfield 32, 3) := by decide +kernel
theorem dX0_init_57 : decode cX0_init 57 = .ok (.return_, 1) := by decide +kernel
theorem dX0_make_0 : decode cX0_make 0 = .ok (.aload_n 0, 1) := by decide +kernel
theorem dX0_make_1 : decode cX0_make 1 = .ok (.aload_n 1, 1) := by decide +kernel
theorem dX0_make_2 : decode cX0_make 2 = .ok (.invokevirtual 36, 3) := by decide +kernel
theorem dX0_make_5 : decode cX0_make 5 = .ok (.istore_n 2, 1) := by decide +kernel
theorem dX0_make_6 : decode cX0_make 6 = .ok (.iconst 1, 1) := by decide +kernel
theorem dX0_make_7 : decode cX0_make 7 = .ok (.istore_n 3, 1) := by decide +kernel
theorem dX0_make_8 : decode cX0_make 8 = .ok (.iload_n 3, 1) := by decide +kernel
theorem dX0_make_9 : decode cX0_make 9 = .ok (.iload_n 2, 1) := by decide +kernel
theorem dX0_make_10 : decode cX0_make 10 = .ok (.if_icmp .ge 13, 3) := by decide +kernel
theorem dX0_make_13 : decode cX0_make 13 = .ok (.aload_n 0, 1) := by decide +kernel
theorem dX0_make_14 : decode cX0_make 14 = .ok (.invokevirtual 40, 3) := by decide +kernel
theorem dX0_make_17 : decode cX0_make 17 = .ok (.iinc 3 1, 3) := by decide +kernel
theorem dX0_make_20 : decode cX0_make 20 = .ok (.goto (-12), 3) := by decide +kernel
theorem dX0_make_23 : decode cX0_make 23 = .ok (.iload_n 2, 1) := by decide +kernel
theorem dX0_make_24 : decode cX0_make 24 = .ok (.iconst 1, 1) := by decide +kernel
theorem dX0_make_25 : decode cX0_make 25 = .ok (.if_icmp .ne 12, 3) := by decide +kernel
theorem dX0_make_28 : decode cX0_make 28 = .ok (.aload_n 0, 1) := by decide +kernel
theorem dX0_make_29 : decode cX0_make 29 = .ok (.aload_n 0, 1) := by decide +kernel
theorem dX0_make_30 : decode cX0_make 30 = .ok (.iconst (-1), 1) := by decide +kernel
theorem dX0_make_31 : decode cX0_make 31 = .ok (.invokevirtual 43, 3) := by decide +kernel
theorem dX0_make_34 : decode cX0_make 34 = .ok (.invokevirtual 47, 3) := by decide +kernel
theorem dX0_make_37 : decode cX0_make 37 = .ok (.aload_n 0, 1) := by decide +kernel
theorem dX0_make_38 : decode cX0_make 38 = .ok (.invokevirtual 50, 3) := by decide +kernel
theorem dX0_make_41 : decode cX0_make 41 = .ok (.aload_n 0, 1) := by decide +kernel
theorem dX0_make_42 : decode cX0_make 42 = .ok (.invokevirtual 53, 3) := by decide +kernel
theorem dX0_make_45 : decode cX0_make 45 = .ok (.return_, 1) := by decide +kernel
theorem dX0_lengthOf_0 : decode cX0_lengthOf 0 = .ok (.iload_n 1, 1) := by decide +kernel
theorem dX0_lengthOf_1 : decode cX0_lengthOf 1 = .ok (.ifCond .lt 18, 3) := by decide +kernel
theorem dX0_lengthOf_4 : decode cX0_lengthOf 4 = .ok (.iload_n 1, 1) := by decide +kernel
theorem dX0_lengthOf_5 : decode cX0_lengthOf 5 = .ok (.bipush 86, 2) := by decide +kernel
theorem dX0_lengthOf_7 : decode cX0_lengthOf 7 = .ok (.if_icmp .ge 12, 3) := by decide +kernel
theorem dX0_lengthOf_10 : decode cX0_lengthOf 10 = .ok (.aload_n 0, 1) := by decide +kernel
theorem dX0_lengthOf_11 : decode cX0_lengthOf 11 = .ok (.getfield 21, 3) := by decide +kernel
theorem dX0_lengthOf_14 : decode cX0_lengthOf 14 = .ok (.iload_n 1, 1) := by decide +kernel
theorem dX0_lengthOf_15 : decode cX0_lengthOf 15 = .ok (.iaload, 1) := by decide +kernel
theorem dX0_lengthOf_16 : decode cX0_lengthOf 16 = .ok (.goto 4, 3) := by decide +kernel
theorem dX0_lengthOf_19 : decode cX0_lengthOf 19 = .ok (.iconst 0, 1) := by decide +kernel
theorem dX0_lengthOf_20 : decode cX0_lengthOf 20 = .ok (.ireturn, 1) := by decide +kernel
theorem dX0_codeOf_0 : decode cX0_codeOf 0 = .ok (.aload_n 0, 1) := by decide +kernel
theorem dX0_codeOf_1 : decode cX0_codeOf 1 = .ok (.iload_n 1, 1) := by decide +kernel
theorem dX0_codeOf_2 : decode cX0_codeOf 2 = .ok (.invokevirtual 56, 3) := by decide +kernel
theorem dX0_codeOf_5 : decode cX0_codeOf 5 = .ok (.ifCond .le 12, 3) := by decide +kernel
theorem dX0_codeOf_8 : decode cX0_codeOf 8 = .ok (.aload_n 0, 1) := by decide +kernel
theorem dX0_codeOf_9 : decode cX0_codeOf 9 = .ok (.getfield 24, 3) := by decide +kernel
theorem dX0_codeOf_12 : decode cX0_codeOf 12 = .ok (.iload_n 1, 1) := by decide +kernel
theorem dX0_codeOf_13 : decode cX0_codeOf 13 = .ok (.iaload, 1) := by decide +kernel
theorem dX0_codeOf_14 : decode cX0_codeOf 14 = .ok (.goto 4, 3) := by decide +kernel
theorem dX0_codeOf_17 : decode cX0_codeOf 17 = .ok (.iconst (-1), 1) := by decide +kernel
theorem dX0_codeOf_18 : decode cX0_codeOf 18 = .ok (.ireturn, 1) := by decide +kernel
theorem dX0_signAt_0 : decode cX0_signAt 0 = .ok (.aload_n 0, 1) := by decide +kernel
theorem dX0_signAt_1 : decode cX0_signAt 1 = .ok (.getfield 32, 3) := by decide +kernel
theorem dX0_signAt_4 : decode cX0_signAt 4 = .ok (.iload_n 1, 1) := by decide +kernel
theorem dX0_signAt_5 : decode cX0_signAt 5 = .ok (.invokevirtual 59, 3) := by decide +kernel
theorem dX0_signAt_8 : decode cX0_signAt 8 = .ok (.ireturn, 1) := by decide +kernel
theorem dX0_allBits_0 : decode cX0_allBits 0 = .ok (.iconst 0, 1) := by decide +kernel
theorem dX0_allBits_1 : decode cX0_allBits 1 = .ok (.istore_n 1, 1) := by decide +kernel
theorem dX0_allBits_2 : decode cX0_allBits 2 = .ok (.iconst 0, 1) := by decide +kernel
theorem dX0_allBits_3 : decode cX0_allBits 3 = .ok (.istore_n 2, 1) := by decide +kernel
theorem dX0_allBits_4 : decode cX0_allBits 4 = .ok (.iload_n 2, 1) := by decide +kernel
theorem dX0_allBits_5 : decode cX0_allBits 5 = .ok (.bipush 86, 2) := by decide +kernel
theorem dX0_allBits_7 : decode cX0_allBits 7 = .ok (.if_icmp .ge 25, 3) := by decide +kernel
theorem dX0_allBits_10 : decode cX0_allBits 10 = .ok (.iload_n 1, 1) := by decide +kernel
theorem dX0_allBits_11 : decode cX0_allBits 11 = .ok (.aload_n 0, 1) := by decide +kernel
theorem dX0_allBits_12 : decode cX0_allBits 12 = .ok (.getfield 9, 3) := by decide +kernel
theorem dX0_allBits_15 : decode cX0_allBits 15 = .ok (.iload_n 2, 1) := by decide +kernel
theorem dX0_allBits_16 : decode cX0_allBits 16 = .ok (.iaload, 1) := by decide +kernel
theorem dX0_allBits_17 : decode cX0_allBits 17 = .ok (.aload_n 0, 1) := by decide +kernel
theorem dX0_allBits_18 : decode cX0_allBits 18 = .ok (.getfield 21, 3) := by decide +kernel
theorem dX0_allBits_21 : decode cX0_allBits 21 = .ok (.iload_n 2, 1) := by decide +kernel
theorem dX0_allBits_22 : decode cX0_allBits 22 = .ok (.iaload, 1) := by decide +kernel
theorem dX0_allBits_23 : decode cX0_allBits 23 = .ok (.imul, 1) := by decide +kernel
theorem dX0_allBits_24 : decode cX0_allBits 24 = .ok (.iadd, 1) := by decide +kernel
theorem dX0_allBits_25 : decode cX0_allBits 25 = .ok (.istore_n 1, 1) := by decide +kernel
theorem dX0_allBits_26 : decode cX0_allBits 26 = .ok (.iinc 2 1, 3) := by decide +kernel
theorem dX0_allBits_29 : decode cX0_allBits 29 = .ok (.goto (-25), 3) := by decide +kernel
theorem dX0_allBits_32 : decode cX0_allBits 32 = .ok (.iload_n 1, 1) := by decide +kernel
theorem dX0_allBits_33 : decode cX0_allBits 33 = .ok (.ireturn, 1) := by decide +kernel
theorem dX0_weigh_0 : decode cX0_weigh 0 = .ok (.iconst 0, 1) := by decide +kernel
theorem dX0_weigh_1 : decode cX0_weigh 1 = .ok (.istore_n 2, 1) := by decide +kernel
theorem dX0_weigh_2 : decode cX0_weigh 2 = .ok (.iconst 0, 1) := by decide +kernel
theorem dX0_weigh_3 : decode cX0_weigh 3 = .ok (.istore_n 3, 1) := by decide +kernel
theorem dX0_weigh_4 : decode cX0_weigh 4 = .ok (.iload_n 3, 1) := by decide +kernel
theorem dX0_weigh_5 : decode cX0_weigh 5 = .ok (.bipush 86, 2) := by decide +kernel
theorem dX0_weigh_7 : decode cX0_weigh 7 = .ok (.if_icmp .ge 65, 3) := by decide +kernel
theorem dX0_weigh_10 : decode cX0_weigh 10 = .ok (.aload_n 0, 1) := by decide +kernel
theorem dX0_weigh_11 : decode cX0_weigh 11 = .ok (.getfield 9, 3) := by decide +kernel
theorem dX0_weigh_14 : decode cX0_weigh 14 = .ok (.iload_n 3, 1) := by decide +kernel
theorem dX0_weigh_15 : decode cX0_weigh 15 = .ok (.aload_n 1, 1) := by decide +kernel
theorem dX0_weigh_16 : decode cX0_weigh 16 = .ok (.iload_n 3, 1) := by decide +kernel
theorem dX0_weigh_17 : decode cX0_weigh 17 = .ok (.invokevirtual 62, 3) := by decide +kernel
theorem dX0_weigh_20 : decode cX0_weigh 20 = .ok (.iastore, 1) := by decide +kernel
theorem dX0_weigh_21 : decode cX0_weigh 21 = .ok (.aload_n 0, 1) := by decide +kernel
theorem dX0_weigh_22 : decode cX0_weigh 22 = .ok (.getfield 15, 3) := by decide +kernel
theorem dX0_weigh_25 : decode cX0_weigh 25 = .ok (.iload_n 3, 1) := by decide +kernel
theorem dX0_weigh_26 : decode cX0_weigh 26 = .ok (.iload_n 3, 1) := by decide +kernel
theorem dX0_weigh_27 : decode cX0_weigh 27 = .ok (.iastore, 1) := by decide +kernel
theorem dX0_weigh_28 : decode cX0_weigh 28 = .ok (.aload_n 0, 1) := by decide +kernel
theorem dX0_weigh_29 : decode cX0_weigh 29 = .ok (.getfield 18, 3) := by decide +kernel
theorem dX0_weigh_32 : decode cX0_weigh 32 = .ok (.iload_n 3, 1) := by decide +kernel
theorem dX0_weigh_33 : decode cX0_weigh 33 = .ok (.aload_n 0, 1) := by decide +kernel
theorem dX0_weigh_34 : decode cX0_weigh 34 = .ok (.getfield 9, 3) := by decide +kernel
theorem dX0_weigh_37 : decode cX0_weigh 37 = .ok (.iload_n 3, 1) := by decide +kernel
theorem dX0_weigh_38 : decode cX0_weigh 38 = .ok (.iaload, 1) := by decide +kernel
theorem dX0_weigh_39 : decode cX0_weigh 39 = .ok (.iastore, 1) := by decide +kernel
theorem dX0_weigh_40 : decode cX0_weigh 40 = .ok (.aload_n 0, 1) := by decide +kernel
theorem dX0_weigh_41 : decode cX0_weigh 41 = .ok (.getfield 21, 3) := by decide +kernel
theorem dX0_weigh_44 : decode cX0_weigh 44 = .ok (.iload_n 3, 1) := by decide +kernel
theorem dX0_weigh_45 : decode cX0_weigh 45 = .ok (.iconst 0, 1) := by decide +kernel
theorem dX0_weigh_46 : decode cX0_weigh 46 = .ok (.iastore, 1) := by decide +kernel
theorem dX0_weigh_47 : decode cX0_weigh 47 = .ok (.aload_n 0, 1) := by decide +kernel
theorem dX0_weigh_48 : decode cX0_weigh 48 = .ok (.getfield 24, 3) := by decide +kernel
theorem dX0_weigh_51 : decode cX0_weigh 51 = .ok (.iload_n 3, 1) := by decide +kernel
theorem dX0_weigh_52 : decode cX0_weigh 52 = .ok (.iconst 0, 1) := by decide +kernel
theorem dX0_weigh_53 : decode cX0_weigh 53 = .ok (.iastore, 1) := by decide +kernel
theorem dX0_weigh_54 : decode cX0_weigh 54 = .ok (.aload_n 0, 1) := by decide +kernel
theorem dX0_weigh_55 : decode cX0_weigh 55 = .ok (.getfield 9, 3) := by decide +kernel
theorem dX0_weigh_58 : decode cX0_weigh 58 = .ok (.iload_n 3, 1) := by decide +kernel
theorem dX0_weigh_59 : decode cX0_weigh 59 = .ok (.iaload, 1) := by decide +kernel
theorem dX0_weigh_60 : decode cX0_weigh 60 = .ok (.ifCond .le 6, 3) := by decide +kernel
theorem dX0_weigh_63 : decode cX0_weigh 63 = .ok (.iinc 2 1, 3) := by decide +kernel
theorem dX0_weigh_66 : decode cX0_weigh 66 = .ok (.iinc 3 1, 3) := by decide +kernel
theorem dX0_weigh_69 : decode cX0_weigh 69 = .ok (.goto (-65), 3) := by decide +kernel
theorem dX0_weigh_72 : decode cX0_weigh 72 = .ok (.iload_n 2, 1) := by decide +kernel
theorem dX0_weigh_73 : decode cX0_weigh 73 = .ok (.ireturn, 1) := by decide +kernel
theorem dX0_lightestBut_0 : decode cX0_lightestBut 0 = .ok (.iconst (-1), 1) := by decide +kernel
theorem dX0_lightestBut_1 : decode cX0_lightestBut 1 = .ok (.istore_n 2, 1) := by decide +kernel
theorem dX0_lightestBut_2 : decode cX0_lightestBut 2 = .ok (.iconst 0, 1) := by decide +kernel
theorem dX0_lightestBut_3 : decode cX0_lightestBut 3 = .ok (.istore_n 3, 1) := by decide +kernel
theorem dX0_lightestBut_4 : decode cX0_lightestBut 4 = .ok (.iload_n 3, 1) := by decide +kernel
theorem dX0_lightestBut_5 : decode cX0_lightestBut 5 = .ok (.bipush 86, 2) := by decide +kernel
theorem dX0_lightestBut_7 : decode cX0_lightestBut 7 = .ok (.if_icmp .ge 45, 3) := by decide +kernel
theorem dX0_lightestBut_10 : decode cX0_lightestBut 10 = .ok (.iload_n 3, 1) := by decide +kernel
theorem dX0_lightestBut_11 : decode cX0_lightestBut 11 = .ok (.iload_n 1, 1) := by decide +kernel
theorem dX0_lightestBut_12 : decode cX0_lightestBut 12 = .ok (.if_icmp .eq 34, 3) := by decide +kernel
theorem dX0_lightestBut_15 : decode cX0_lightestBut 15 = .ok (.aload_n 0, 1) := by decide +kernel
theorem dX0_lightestBut_16 : decode cX0_lightestBut 16 = .ok (.getfield 18, 3) := by decide +kernel
theorem dX0_lightestBut_19 : decode cX0_lightestBut 19 = .ok (.iload_n 3, 1) := by decide +kernel
theorem dX0_lightestBut_20 : decode cX0_lightestBut 20 = .ok (.iaload, 1) := by decide +kernel
theorem dX0_lightestBut_21 : decode cX0_lightestBut 21 = .ok (.ifCond .le 25, 3) := by decide +kernel
theorem dX0_lightestBut_24 : decode cX0_lightestBut 24 = .ok (.iload_n 2, 1) := by decide +kernel
theorem dX0_lightestBut_25 : decode cX0_lightestBut 25 = .ok (.iconst (-1), 1) := by decide +kernel
theorem dX0_lightestBut_26 : decode cX0_lightestBut 26 = .ok (.if_icmp .eq 18, 3) := by decide +kernel
theorem dX0_lightestBut_29 : decode cX0_lightestBut 29 = .ok (.aload_n 0, 1) := by decide +kernel
theorem dX0_lightestBut_30 : decode cX0_lightestBut 30 = .ok (.getfield 18, 3) := by decide +kernel
theorem dX0_lightestBut_33 : decode cX0_lightestBut 33 = .ok (.iload_n 3, 1) := by decide +kernel
theorem dX0_lightestBut_34 : decode cX0_lightestBut 34 = .ok (.iaload, 1) := by decide +kernel
theorem dX0_lightestBut_35 : decode cX0_lightestBut 35 = .ok (.aload_n 0, 1) := by decide +kernel
theorem dX0_lightestBut_36 : decode cX0_lightestBut 36 = .ok (.getfield 18, 3) := by decide +kernel
theorem dX0_lightestBut_39 : decode cX0_lightestBut 39 = .ok (.iload_n 2, 1) := by decide +kernel
theorem dX0_lightestBut_40 : decode cX0_lightestBut 40 = .ok (.iaload, 1) := by decide +kernel
theorem dX0_lightestBut_41 : decode cX0_lightestBut 41 = .ok (.if_icmp .ge 5, 3) := by decide +kernel
theorem dX0_lightestBut_44 : decode cX0_lightestBut 44 = .ok (.iload_n 3, 1) := by decide +kernel
theorem dX0_lightestBut_45 : decode cX0_lightestBut 45 = .ok (.istore_n 2, 1) := by decide +kernel
theorem dX0_lightestBut_46 : decode cX0_lightestBut 46 = .ok (.iinc 3 1, 3) := by decide +kernel
theorem dX0_lightestBut_49 : decode cX0_lightestBut 49 = .ok (.goto (-45), 3) := by decide +kernel
theorem dX0_lightestBut_52 : decode cX0_lightestBut 52 = .ok (.iload_n 2, 1) := by decide +kernel
theorem dX0_lightestBut_53 : decode cX0_lightestBut 53 = .ok (.ireturn, 1) := by decide +kernel
theorem dX0_putTwoTogether_0 : decode cX0_putTwoTogether 0 = .ok (.aload_n 0, 1) := by decide +kernel
theorem dX0_putTwoTogether_1 : decode cX0_putTwoTogether 1 = .ok (.iconst (-1), 1) := by decide +kernel
theorem dX0_putTwoTogether_2 : decode cX0_putTwoTogether 2 = .ok (.invokevirtual 43, 3) := by decide +kernel
theorem dX0_putTwoTogether_5 : decode cX0_putTwoTogether 5 = .ok (.istore_n 1, 1) := by decide +kernel
theorem dX0_putTwoTogether_6 : decode cX0_putTwoTogether 6 = .ok (.aload_n 0, 1) := by decide +kernel
theorem dX0_putTwoTogether_7 : decode cX0_putTwoTogether 7 = .ok (.iload_n 1, 1) := by decide +kernel
theorem dX0_putTwoTogether_8 : decode cX0_putTwoTogether 8 = .ok (.invokevirtual 43, 3) := by decide +kernel
theorem dX0_putTwoTogether_11 : decode cX0_putTwoTogether 11 = .ok (.istore_n 2, 1) := by decide +kernel
theorem dX0_putTwoTogether_12 : decode cX0_putTwoTogether 12 = .ok (.iload_n 1, 1) := by decide +kernel
theorem dX0_putTwoTogether_13 : decode cX0_putTwoTogether 13 = .ok (.iconst (-1), 1) := by decide +kernel
theorem dX0_putTwoTogether_14 : decode cX0_putTwoTogether 14 = .ok (.if_icmp .eq 8, 3) := by decide +kernel
theorem dX0_putTwoTogether_17 : decode cX0_putTwoTogether 17 = .ok (.iload_n 2, 1) := by decide +kernel
theorem dX0_putTwoTogether_18 : decode cX0_putTwoTogether 18 = .ok (.iconst (-1), 1) := by decide +kernel
theorem dX0_putTwoTogether_19 : decode cX0_putTwoTogether 19 = .ok (.if_icmp .ne 4, 3) := by decide +kernel
theorem dX0_putTwoTogether_22 : decode cX0_putTwoTogether 22 = .ok (.return_, 1) := by decide +kernel
theorem dX0_putTwoTogether_23 : decode cX0_putTwoTogether 23 = .ok (.aload_n 0, 1) := by decide +kernel
theorem dX0_putTwoTogether_24 : decode cX0_putTwoTogether 24 = .ok (.iload_n 1, 1) := by decide +kernel
theorem dX0_putTwoTogether_25 : decode cX0_putTwoTogether 25 = .ok (.invokevirtual 47, 3) := by decide +kernel
theorem dX0_putTwoTogether_28 : decode cX0_putTwoTogether 28 = .ok (.aload_n 0, 1) := by decide +kernel
theorem dX0_putTwoTogether_29 : decode cX0_putTwoTogether 29 = .ok (.iload_n 2, 1) := by decide +kernel
theorem dX0_putTwoTogether_30 : decode cX0_putTwoTogether 30 = .ok (.invokevirtual 47, 3) := by decide +kernel
theorem dX0_putTwoTogether_33 : decode cX0_putTwoTogether 33 = .ok (.iload_n 1, 1) := by decide +kernel
theorem dX0_putTwoTogether_34 : decode cX0_putTwoTogether 34 = .ok (.iload_n 2, 1) := by decide +kernel
theorem dX0_putTwoTogether_35 : decode cX0_putTwoTogether 35 = .ok (.invokestatic 65, 3) := by decide +kernel
theorem dX0_putTwoTogether_38 : decode cX0_putTwoTogether 38 = .ok (.istore_n 3, 1) := by decide +kernel
theorem dX0_putTwoTogether_39 : decode cX0_putTwoTogether 39 = .ok (.iload_n 1, 1) := by decide +kernel
theorem dX0_putTwoTogether_40 : decode cX0_putTwoTogether 40 = .ok (.iload_n 2, 1) := by decide +kernel
theorem dX0_putTwoTogether_41 : decode cX0_putTwoTogether 41 = .ok (.invokestatic 71, 3) := by decide +kernel
theorem dX0_putTwoTogether_44 : decode cX0_putTwoTogether 44 = .ok (.istore 4, 2) := by decide +kernel
theorem dX0_putTwoTogether_46 : decode cX0_putTwoTogether 46 = .ok (.aload_n 0, 1) := by decide +kernel
theorem dX0_putTwoTogether_47 : decode cX0_putTwoTogether 47 = .ok (.getfield 18, 3) := by decide +kernel
theorem dX0_putTwoTogether_50 : decode cX0_putTwoTogether 50 = .ok (.iload_n 3, 1) := by decide +kernel
theorem dX0_putTwoTogether_51 : decode cX0_putTwoTogether 51 = .ok (.dup2, 1) := by decide +kernel
theorem dX0_putTwoTogether_52 : decode cX0_putTwoTogether 52 = .ok (.iaload, 1) := by decide +kernel
theorem dX0_putTwoTogether_53 : decode cX0_putTwoTogether 53 = .ok (.aload_n 0, 1) := by decide +kernel
theorem dX0_putTwoTogether_54 : decode cX0_putTwoTogether 54 = .ok (.getfield 18, 3) := by decide +kernel
theorem dX0_putTwoTogether_57 : decode cX0_putTwoTogether 57 = .ok (.iload 4, 2) := by decide +kernel
theorem dX0_putTwoTogether_59 : decode cX0_putTwoTogether 59 = .ok (.iaload, 1) := by decide +kernel
theorem dX0_putTwoTogether_60 : decode cX0_putTwoTogether 60 = .ok (.iadd, 1) := by decide +kernel
theorem dX0_putTwoTogether_61 : decode cX0_putTwoTogether 61 = .ok (.iastore, 1) := by decide +kernel
theorem dX0_putTwoTogether_62 : decode cX0_putTwoTogether 62 = .ok (.aload_n 0, 1) := by decide +kernel
theorem dX0_putTwoTogether_63 : decode cX0_putTwoTogether 63 = .ok (.getfield 18, 3) := by decide +kernel
theorem dX0_putTwoTogether_66 : decode cX0_putTwoTogether 66 = .ok (.iload 4, 2) := by decide +kernel
theorem dX0_putTwoTogether_68 : decode cX0_putTwoTogether 68 = .ok (.iconst 0, 1) := by decide +kernel
theorem dX0_putTwoTogether_69 : decode cX0_putTwoTogether 69 = .ok (.iastore, 1) := by decide +kernel
theorem dX0_putTwoTogether_70 : decode cX0_putTwoTogether 70 = .ok (.iconst 0, 1) := by decide +kernel
theorem dX0_putTwoTogether_71 : decode cX0_putTwoTogether 71 = .ok (.istore 5, 2) := by decide +kernel
theorem dX0_putTwoTogether_73 : decode cX0_putTwoTogether 73 = .ok (.iload 5, 2) := by decide +kernel
theorem dX0_putTwoTogether_75 : decode cX0_putTwoTogether 75 = .ok (.bipush 86, 2) := by decide +kernel
theorem dX0_putTwoTogether_77 : decode cX0_putTwoTogether 77 = .ok (.if_icmp .ge 29, 3) := by decide +kernel
theorem dX0_putTwoTogether_80 : decode cX0_putTwoTogether 80 = .ok (.aload_n 0, 1) := by decide +kernel
theorem dX0_putTwoTogether_81 : decode cX0_putTwoTogether 81 = .ok (.getfield 15, 3) := by decide +kernel
theorem dX0_putTwoTogether_84 : decode cX0_putTwoTogether 84 = .ok (.iload 5, 2) := by decide +kernel
theorem dX0_putTwoTogether_86 : decode cX0_putTwoTogether 86 = .ok (.iaload, 1) := by decide +kernel
theorem dX0_putTwoTogether_87 : decode cX0_putTwoTogether 87 = .ok (.iload 4, 2) := by decide +kernel
theorem dX0_putTwoTogether_89 : decode cX0_putTwoTogether 89 = .ok (.if_icmp .ne 11, 3) := by decide +kernel
theorem dX0_putTwoTogether_92 : decode cX0_putTwoTogether 92 = .ok (.aload_n 0, 1) := by decide +kernel
theorem dX0_putTwoTogether_93 : decode cX0_putTwoTogether 93 = .ok (.getfield 15, 3) := by decide +kernel
theorem dX0_putTwoTogether_96 : decode cX0_putTwoTogether 96 = .ok (.iload 5, 2) := by decide +kernel
theorem dX0_putTwoTogether_98 : decode cX0_putTwoTogether 98 = .ok (.iload_n 3, 1) := by decide +kernel
theorem dX0_putTwoTogether_99 : decode cX0_putTwoTogether 99 = .ok (.iastore, 1) := by decide +kernel
theorem dX0_putTwoTogether_100 : decode cX0_putTwoTogether 100 = .ok (.iinc 5 1, 3) := by decide +kernel
theorem dX0_putTwoTogether_103 : decode cX0_putTwoTogether 103 = .ok (.goto (-30), 3) := by decide +kernel
theorem dX0_putTwoTogether_106 : decode cX0_putTwoTogether 106 = .ok (.return_, 1) := by decide +kernel
theorem dX0_lengthenGroup_0 : decode cX0_lengthenGroup 0 = .ok (.iconst 0, 1) := by decide +kernel
theorem dX0_lengthenGroup_1 : decode cX0_lengthenGroup 1 = .ok (.istore_n 2, 1) := by decide +kernel
theorem dX0_lengthenGroup_2 : decode cX0_lengthenGroup 2 = .ok (.iload_n 2, 1) := by decide +kernel
theorem dX0_lengthenGroup_3 : decode cX0_lengthenGroup 3 = .ok (.bipush 86, 2) := by decide +kernel
theorem dX0_lengthenGroup_5 : decode cX0_lengthenGroup 5 = .ok (.if_icmp .ge 29, 3) := by decide +kernel
theorem dX0_lengthenGroup_8 : decode cX0_lengthenGroup 8 = .ok (.aload_n 0, 1) := by decide +kernel
theorem dX0_lengthenGroup_9 : decode cX0_lengthenGroup 9 = .ok (.getfield 15, 3) := by decide +kernel
theorem dX0_lengthenGroup_12 : decode cX0_lengthenGroup 12 = .ok (.iload_n 2, 1) := by decide +kernel
theorem dX0_lengthenGroup_13 : decode cX0_lengthenGroup 13 = .ok (.iaload, 1) := by decide +kernel
theorem dX0_lengthenGroup_14 : decode cX0_lengthenGroup 14 = .ok (.iload_n 1, 1) := by decide +kernel
theorem dX0_lengthenGroup_15 : decode cX0_lengthenGroup 15 = .ok (.if_icmp .ne 13, 3) := by decide +kernel
theorem dX0_lengthenGroup_18 : decode cX0_lengthenGroup 18 = .ok (.aload_n 0, 1) := by decide +kernel
theorem dX0_lengthenGroup_19 : decode cX0_lengthenGroup 19 = .ok (.getfield 21, 3) := by decide +kernel
theorem dX0_lengthenGroup_22 : decode cX0_lengthenGroup 22 = .ok (.iload_n 2, 1) := by decide +kernel
theorem dX0_lengthenGroup_23 : decode cX0_lengthenGroup 23 = .ok (.dup2, 1) := by decide +kernel
theorem dX0_lengthenGroup_24 : decode cX0_lengthenGroup 24 = .ok (.iaload, 1) := by decide +kernel
theorem dX0_lengthenGroup_25 : decode cX0_lengthenGroup 25 = .ok (.iconst 1, 1) := by decide +kernel
theorem dX0_lengthenGroup_26 : decode cX0_lengthenGroup 26 = .ok (.iadd, 1) := by decide +kernel
theorem dX0_lengthenGroup_27 : decode cX0_lengthenGroup 27 = .ok (.iastore, 1) := by decide +kernel
theorem dX0_lengthenGroup_28 : decode cX0_lengthenGroup 28 = .ok (.iinc 2 1, 3) := by decide +kernel
theorem dX0_lengthenGroup_31 : decode cX0_lengthenGroup 31 = .ok (.goto (-29), 3) := by decide +kernel
theorem dX0_lengthenGroup_34 : decode cX0_lengthenGroup 34 = .ok (.return_, 1) := by decide +kernel
theorem dX0_putInOrder_0 : decode cX0_putInOrder 0 = .ok (.aload_n 0, 1) := by decide +kernel
theorem dX0_putInOrder_1 : decode cX0_putInOrder 1 = .ok (.getfield 32, 3) := by decide +kernel
theorem dX0_putInOrder_4 : decode cX0_putInOrder 4 = .ok (.invokevirtual 74, 3) := by decide +kernel
theorem dX0_putInOrder_7 : decode cX0_putInOrder 7 = .ok (.iconst 1, 1) := by decide +kernel
theorem dX0_putInOrder_8 : decode cX0_putInOrder 8 = .ok (.istore_n 1, 1) := by decide +kernel
theorem dX0_putInOrder_9 : decode cX0_putInOrder 9 = .ok (.iload_n 1, 1) := by decide +kernel
theorem dX0_putInOrder_10 : decode cX0_putInOrder 10 = .ok (.bipush 86, 2) := by decide +kernel
theorem dX0_putInOrder_12 : decode cX0_putInOrder 12 = .ok (.if_icmp .ge 41, 3) := by decide +kernel
theorem dX0_putInOrder_15 : decode cX0_putInOrder 15 = .ok (.iconst 0, 1) := by decide +kernel
theorem dX0_putInOrder_16 : decode cX0_putInOrder 16 = .ok (.istore_n 2, 1) := by decide +kernel
theorem dX0_putInOrder_17 : decode cX0_putInOrder 17 = .ok (.iload_n 2, 1) := by decide +kernel
theorem dX0_putInOrder_18 : decode cX0_putInOrder 18 = .ok (.bipush 86, 2) := by decide +kernel
theorem dX0_putInOrder_20 : decode cX0_putInOrder 20 = .ok (.if_icmp .ge 27, 3) := by decide +kernel
theorem dX0_putInOrder_23 : decode cX0_putInOrder 23 = .ok (.aload_n 0, 1) := by decide +kernel
theorem dX0_putInOrder_24 : decode cX0_putInOrder 24 = .ok (.getfield 21, 3) := by decide +kernel
theorem dX0_putInOrder_27 : decode cX0_putInOrder 27 = .ok (.iload_n 2, 1) := by decide +kernel
theorem dX0_putInOrder_28 : decode cX0_putInOrder 28 = .ok (.iaload, 1) := by decide +kernel
theorem dX0_putInOrder_29 : decode cX0_putInOrder 29 = .ok (.iload_n 1, 1) := by decide +kernel
theorem dX0_putInOrder_30 : decode cX0_putInOrder 30 = .ok (.if_icmp .ne 11, 3) := by decide +kernel
theorem dX0_putInOrder_33 : decode cX0_putInOrder 33 = .ok (.aload_n 0, 1) := by decide +kernel
theorem dX0_putInOrder_34 : decode cX0_putInOrder 34 = .ok (.getfield 32, 3) := by decide +kernel
theorem dX0_putInOrder_37 : decode cX0_putInOrder 37 = .ok (.iload_n 2, 1) := by decide +kernel
theorem dX0_putInOrder_38 : decode cX0_putInOrder 38 = .ok (.invokevirtual 77, 3) := by decide +kernel
theorem dX0_putInOrder_41 : decode cX0_putInOrder 41 = .ok (.iinc 2 1, 3) := by decide +kernel
theorem dX0_putInOrder_44 : decode cX0_putInOrder 44 = .ok (.goto (-27), 3) := by decide +kernel
theorem dX0_putInOrder_47 : decode cX0_putInOrder 47 = .ok (.iinc 1 1, 3) := by decide +kernel
theorem dX0_putInOrder_50 : decode cX0_putInOrder 50 = .ok (.goto (-41), 3) := by decide +kernel
theorem dX0_putInOrder_53 : decode cX0_putInOrder 53 = .ok (.return_, 1) := by decide +kernel
theorem dX0_number_0 : decode cX0_number 0 = .ok (.iconst 0, 1) := by decide +kernel
theorem dX0_number_1 : decode cX0_number 1 = .ok (.istore_n 1, 1) := by decide +kernel
theorem dX0_number_2 : decode cX0_number 2 = .ok (.aload_n 0, 1) := by decide +kernel
theorem dX0_number_3 : decode cX0_number 3 = .ok (.aload_n 0, 1) := by decide +kernel
theorem dX0_number_4 : decode cX0_number 4 = .ok (.getfield 32, 3) := by decide +kernel
theorem dX0_number_7 : decode cX0_number 7 = .ok (.iconst 0, 1) := by decide +kernel
theorem dX0_number_8 : decode cX0_number 8 = .ok (.invokevirtual 59, 3) := by decide +kernel
theorem dX0_number_11 : decode cX0_number 11 = .ok (.invokevirtual 56, 3) := by decide +kernel
theorem dX0_number_14 : decode cX0_number 14 = .ok (.istore_n 2, 1) := by decide +kernel
theorem dX0_number_15 : decode cX0_number 15 = .ok (.iconst 0, 1) := by decide +kernel
theorem dX0_number_16 : decode cX0_number 16 = .ok (.istore_n 3, 1) := by decide +kernel
theorem dX0_number_17 : decode cX0_number 17 = .ok (.iload_n 3, 1) := by decide +kernel
theorem dX0_number_18 : decode cX0_number 18 = .ok (.aload_n 0, 1) := by decide +kernel
theorem dX0_number_19 : decode cX0_number 19 = .ok (.getfield 32, 3) := by decide +kernel
theorem dX0_number_22 : decode cX0_number 22 = .ok (.invokevirtual 80, 3) := by decide +kernel
theorem dX0_number_25 : decode cX0_number 25 = .ok (.if_icmp .ge 60, 3) := by decide +kernel
theorem dX0_number_28 : decode cX0_number 28 = .ok (.aload_n 0, 1) := by decide +kernel
theorem dX0_number_29 : decode cX0_number 29 = .ok (.getfield 32, 3) := by decide +kernel
theorem dX0_number_32 : decode cX0_number 32 = .ok (.iload_n 3, 1) := by decide +kernel
theorem dX0_number_33 : decode cX0_number 33 = .ok (.invokevirtual 59, 3) := by decide +kernel
theorem dX0_number_36 : decode cX0_number 36 = .ok (.istore 4, 2) := by decide +kernel
theorem dX0_number_38 : decode cX0_number 38 = .ok (.iload_n 1, 1) := by decide +kernel
theorem dX0_number_39 : decode cX0_number 39 = .ok (.aload_n 0, 1) := by decide +kernel
theorem dX0_number_40 : decode cX0_number 40 = .ok (.iload 4, 2) := by decide +kernel
theorem dX0_number_42 : decode cX0_number 42 = .ok (.invokevirtual 56, 3) := by decide +kernel
theorem dX0_number_45 : decode cX0_number 45 = .ok (.iload_n 2, 1) := by decide +kernel
theorem dX0_number_46 : decode cX0_number 46 = .ok (.isub, 1) := by decide +kernel
theorem dX0_number_47 : decode cX0_number 47 = .ok (.ishl, 1) := by decide +kernel
theorem dX0_number_48 : decode cX0_number 48 = .ok (.istore_n 1, 1) := by decide +kernel
theorem dX0_number_49 : decode cX0_number 49 = .ok (.aload_n 0, 1) := by decide +kernel
theorem dX0_number_50 : decode cX0_number 50 = .ok (.iload 4, 2) := by decide +kernel
theorem dX0_number_52 : decode cX0_number 52 = .ok (.invokevirtual 56, 3) := by decide +kernel
theorem dX0_number_55 : decode cX0_number 55 = .ok (.istore_n 2, 1) := by decide +kernel
theorem dX0_number_56 : decode cX0_number 56 = .ok (.iload 4, 2) := by decide +kernel
theorem dX0_number_58 : decode cX0_number 58 = .ok (.ifCond .lt 18, 3) := by decide +kernel
theorem dX0_number_61 : decode cX0_number 61 = .ok (.iload 4, 2) := by decide +kernel
theorem dX0_number_63 : decode cX0_number 63 = .ok (.bipush 86, 2) := by decide +kernel
theorem dX0_number_65 : decode cX0_number 65 = .ok (.if_icmp .ge 11, 3) := by decide +kernel
theorem dX0_number_68 : decode cX0_number 68 = .ok (.aload_n 0, 1) := by decide +kernel
theorem dX0_number_69 : decode cX0_number 69 = .ok (.getfield 24, 3) := by decide +kernel
theorem dX0_number_72 : decode cX0_number 72 = .ok (.iload 4, 2) := by decide +kernel
theorem dX0_number_74 : decode cX0_number 74 = .ok (.iload_n 1, 1) := by decide +kernel
theorem dX0_number_75 : decode cX0_number 75 = .ok (.iastore, 1) := by decide +kernel
theorem dX0_number_76 : decode cX0_number 76 = .ok (.iinc 1 1, 3) := by decide +kernel
theorem dX0_number_79 : decode cX0_number 79 = .ok (.iinc 3 1, 3) := by decide +kernel
theorem dX0_number_82 : decode cX0_number 82 = .ok (.goto (-65), 3) := by decide +kernel
theorem dX0_number_85 : decode cX0_number 85 = .ok (.return_, 1) := by decide +kernel
theorem dX1_init_0 : decode cX1_init 0 = .ok (.aload_n 0, 1) := by decide +kernel
theorem dX1_init_1 : decode cX1_init 1 = .ok (.invokespecial 3, 3) := by decide +kernel
theorem dX1_init_4 : decode cX1_init 4 = .ok (.aload_n 0, 1) := by decide +kernel
theorem dX1_init_5 : decode cX1_init 5 = .ok (.new 9, 3) := by decide +kernel
theorem dX1_init_8 : decode cX1_init 8 = .ok (.dup, 1) := by decide +kernel
theorem dX1_init_9 : decode cX1_init 9 = .ok (.invokespecial 11, 3) := by decide +kernel
theorem dX1_init_12 : decode cX1_init 12 = .ok (.putfield 12, 3) := by decide +kernel
theorem dX1_init_15 : decode cX1_init 15 = .ok (.aload_n 0, 1) := by decide +kernel
theorem dX1_init_16 : decode cX1_init 16 = .ok (.bipush 86, 2) := by decide +kernel
theorem dX1_init_18 : decode cX1_init 18 = .ok (.newarray .int, 2) := by decide +kernel
theorem dX1_init_20 : decode cX1_init 20 = .ok (.putfield 18, 3) := by decide +kernel
theorem dX1_init_23 : decode cX1_init 23 = .ok (.aload_n 0, 1) := by decide +kernel
theorem dX1_init_24 : decode cX1_init 24 = .ok (.new 22, 3) := by decide +kernel
theorem dX1_init_27 : decode cX1_init 27 = .ok (.dup, 1) := by decide +kernel
theorem dX1_init_28 : decode cX1_init 28 = .ok (.iconst 0, 1) := by decide +kernel
theorem dX1_init_29 : decode cX1_init 29 = .ok (.invokespecial 24, 3) := by decide +kernel
theorem dX1_init_32 : decode cX1_init 32 = .ok (.putfield 27, 3) := by decide +kernel
theorem dX1_init_35 : decode cX1_init 35 = .ok (.aload_n 0, 1) := by decide +kernel
theorem dX1_init_36 : decode cX1_init 36 = .ok (.iconst 0, 1) := by decide +kernel
theorem dX1_init_37 : decode cX1_init 37 = .ok (.putfield 31, 3) := by decide +kernel
theorem dX1_init_40 : decode cX1_init 40 = .ok (.aload_n 0, 1) := by decide +kernel
theorem dX1_init_41 : decode cX1_init 41 = .ok (.iconst 0, 1) := by decide +kernel
theorem dX1_init_42 : decode cX1_init 42 = .ok (.putfield 35, 3) := by decide +kernel
theorem dX1_init_45 : decode cX1_init 45 = .ok (.aload_n 0, 1) := by decide +kernel
theorem dX1_init_46 : decode cX1_init 46 = .ok (.iconst 0, 1) := by decide +kernel
theorem dX1_init_47 : decode cX1_init 47 = .ok (.putfield 38, 3) := by decide +kernel
theorem dX1_init_50 : decode cX1_init 50 = .ok (.aload_n 0, 1) := by decide +kernel
theorem dX1_init_51 : decode cX1_init 51 = .ok (.iconst (-1), 1) := by decide +kernel
theorem dX1_init_52 : decode cX1_init 52 = .ok (.putfield 41, 3) := by decide +kernel
theorem dX1_init_55 : decode cX1_init 55 = .ok (.return_, 1) := by decide +kernel
theorem dX1_readFrom_0 : decode cX1_readFrom 0 = .ok (.aload_n 0, 1) := by decide +kernel
theorem dX1_readFrom_1 : decode cX1_readFrom 1 = .ok (.aload_n 1, 1) := by decide +kernel
theorem dX1_readFrom_2 : decode cX1_readFrom 2 = .ok (.iload_n 2, 1) := by decide +kernel
theorem dX1_readFrom_3 : decode cX1_readFrom 3 = .ok (.invokevirtual 44, 3) := by decide +kernel
theorem dX1_readFrom_6 : decode cX1_readFrom 6 = .ok (.aload_n 0, 1) := by decide +kernel
theorem dX1_readFrom_7 : decode cX1_readFrom 7 = .ok (.invokevirtual 48, 3) := by decide +kernel
theorem dX1_readFrom_10 : decode cX1_readFrom 10 = .ok (.istore_n 3, 1) := by decide +kernel
theorem dX1_readFrom_11 : decode cX1_readFrom 11 = .ok (.aload_n 0, 1) := by decide +kernel
theorem dX1_readFrom_12 : decode cX1_readFrom 12 = .ok (.invokevirtual 52, 3) := by decide +kernel
theorem dX1_readFrom_15 : decode cX1_readFrom 15 = .ok (.ifCond .eq 14, 3) := by decide +kernel
theorem dX1_readFrom_18 : decode cX1_readFrom 18 = .ok (.iload_n 3, 1) := by decide +kernel
theorem dX1_readFrom_19 : decode cX1_readFrom 19 = .ok (.bipush 60, 2) := by decide +kernel
theorem dX1_readFrom_21 : decode cX1_readFrom 21 = .ok (.if_icmp .le 8, 3) := by decide +kernel
theorem dX1_readFrom_24 : decode cX1_readFrom 24 = .ok (.aload_n 0, 1) := by decide +kernel
theorem dX1_readFrom_25 : decode cX1_readFrom 25 = .ok (.iconst 2, 1) := by decide +kernel
theorem dX1_readFrom_26 : decode cX1_readFrom 26 = .ok (.invokevirtual 56, 3) := by decide +kernel
theorem dX1_readFrom_29 : decode cX1_readFrom 29 = .ok (.iconst 0, 1) := by decide +kernel
theorem dX1_readFrom_30 : decode cX1_readFrom 30 = .ok (.istore 4, 2) := by decide +kernel
theorem dX1_readFrom_32 : decode cX1_readFrom 32 = .ok (.iload 4, 2) := by decide +kernel
theorem dX1_readFrom_34 : decode cX1_readFrom 34 = .ok (.iload_n 3, 1) := by decide +kernel
theorem dX1_readFrom_35 : decode cX1_readFrom 35 = .ok (.if_icmp .ge 20, 3) := by decide +kernel
theorem dX1_readFrom_38 : decode cX1_readFrom 38 = .ok (.aload_n 0, 1) := by decide +kernel
theorem dX1_readFrom_39 : decode cX1_readFrom 39 = .ok (.invokevirtual 52, 3) := by decide +kernel
theorem dX1_readFrom_42 : decode cX1_readFrom 42 = .ok (.ifCond .eq 13, 3) := by decide +kernel
theorem dX1_readFrom_45 : decode cX1_readFrom 45 = .ok (.aload_n 0, 1) := by decide +kernel
theorem dX1_readFrom_46 : decode cX1_readFrom 46 = .ok (.invokevirtual 59, 3) := by decide +kernel
theorem dX1_readFrom_49 : decode cX1_readFrom 49 = .ok (.iinc 4 1, 3) := by decide +kernel
theorem dX1_readFrom_52 : decode cX1_readFrom 52 = .ok (.goto (-20), 3) := by decide +kernel
theorem dX1_readFrom_55 : decode cX1_readFrom 55 = .ok (.aload_n 0, 1) := by decide +kernel
theorem dX1_readFrom_56 : decode cX1_readFrom 56 = .ok (.invokevirtual 52, 3) := by decide +kernel
theorem dX1_readFrom_59 : decode cX1_readFrom 59 = .ok (.ifCond .eq 7, 3) := by decide +kernel
theorem dX1_readFrom_62 : decode cX1_readFrom 62 = .ok (.aload_n 0, 1) := by decide +kernel
theorem dX1_readFrom_63 : decode cX1_readFrom 63 = .ok (.invokevirtual 62, 3) := by decide +kernel
theorem dX1_readFrom_66 : decode cX1_readFrom 66 = .ok (.aload_n 0, 1) := by decide +kernel
theorem dX1_readFrom_67 : decode cX1_readFrom 67 = .ok (.invokevirtual 52, 3) := by decide +kernel
theorem dX1_readFrom_70 : decode cX1_readFrom 70 = .ok (.ifCond .eq 29, 3) := by decide +kernel
theorem dX1_readFrom_73 : decode cX1_readFrom 73 = .ok (.aload_n 0, 1) := by decide +kernel
theorem dX1_readFrom_74 : decode cX1_readFrom 74 = .ok (.getfield 35, 3) := by decide +kernel
theorem dX1_readFrom_77 : decode cX1_readFrom 77 = .ok (.aload_n 0, 1) := by decide +kernel
theorem dX1_readFrom_78 : decode cX1_readFrom 78 = .ok (.getfield 31, 3) := by decide +kernel
theorem dX1_readFrom_81 : decode cX1_readFrom 81 = .ok (.if_icmp .ge 18, 3) := by decide +kernel
theorem dX1_readFrom_84 : decode cX1_readFrom 84 = .ok (.aload_n 0, 1) := by decide +kernel
theorem dX1_readFrom_85 : decode cX1_readFrom 85 = .ok (.dup, 1) := by decide +kernel
theorem dX1_readFrom_86 : decode cX1_readFrom 86 = .ok (.getfield 35, 3) := by decide +kernel
theorem dX1_readFrom_89 : decode cX1_readFrom 89 = .ok (.iconst 1, 1) := by decide +kernel
theorem dX1_readFrom_90 : decode cX1_readFrom 90 = .ok (.iadd, 1) := by decide +kernel
theorem dX1_readFrom_91 : decode cX1_readFrom 91 = .ok (.putfield 35, 3) := by decide +kernel
theorem dX1_readFrom_94 : decode cX1_readFrom 94 = .ok (.aload_n 0, 1) := by decide +kernel
theorem dX1_readFrom_95 : decode cX1_readFrom 95 = .ok (.iconst 1, 1) := by decide +kernel
theorem dX1_readFrom_96 : decode cX1_readFrom 96 = .ok (.invokevirtual 56, 3) := by decide +kernel
theorem dX1_readFrom_99 : decode cX1_readFrom 99 = .ok (.return_, 1) := by decide +kernel
theorem dX1_faultKind_0 : decode cX1_faultKind 0 = .ok (.aload_n 0, 1) := by decide +kernel
theorem dX1_faultKind_1 : decode cX1_faultKind 1 = .ok (.getfield 38, 3) := by decide +kernel
theorem dX1_faultKind_4 : decode cX1_faultKind 4 = .ok (.ireturn, 1) := by decide +kernel
theorem dX1_faultPlace_0 : decode cX1_faultPlace 0 = .ok (.aload_n 0, 1) := by decide +kernel
theorem dX1_faultPlace_1 : decode cX1_faultPlace 1 = .ok (.getfield 41, 3) := by decide +kernel
theorem dX1_faultPlace_4 : decode cX1_faultPlace 4 = .ok (.ireturn, 1) := by decide +kernel
theorem dX1_packing_0 : decode cX1_packing 0 = .ok (.aload_n 0, 1) := by decide +kernel
theorem dX1_packing_1 : decode cX1_packing 1 = .ok (.getfield 12, 3) := by decide +kernel
theorem dX1_packing_4 : decode cX1_packing 4 = .ok (.areturn, 1) := by decide +kernel
theorem dX1_start_0 : decode cX1_start 0 = .ok (.aload_n 0, 1) := by decide +kernel
theorem dX1_start_1 : decode cX1_start 1 = .ok (.getfield 12, 3) := by decide +kernel
theorem dX1_start_4 : decode cX1_start 4 = .ok (.invokevirtual 65, 3) := by decide +kernel
theorem dX1_start_7 : decode cX1_start 7 = .ok (.iconst 0, 1) := by decide +kernel
theorem dX1_start_8 : decode cX1_start 8 = .ok (.istore_n 3, 1) := by decide +kernel
theorem dX1_start_9 : decode cX1_start 9 = .ok (.iload_n 3, 1) := by decide +kernel
theorem dX1_start_10 : decode cX1_start 10 = .ok (.bipush 86, 2) := by decide +kernel
theorem dX1_start_12 : decode cX1_start 12 = .ok (.if_icmp .ge 27, 3) := by decide +kernel
theorem dX1_start_15 : decode cX1_start 15 = .ok (.aload_n 0, 1) := by decide +kernel
theorem dX1_start_16 : decode cX1_start 16 = .ok (.getfield 18, 3) := by decide +kernel
theorem dX1_start_19 : decode cX1_start 19 = .ok (.iload_n 3, 1) := by decide +kernel
theorem dX1_start_20 : decode cX1_start 20 = .ok (.iload_n 3, 1) := by decide +kernel
theorem dX1_start_21 : decode cX1_start 21 = .ok (.invokestatic 68, 3) := by decide +kernel
theorem dX1_start_24 : decode cX1_start 24 = .ok (.ifCond .eq 7, 3) := by decide +kernel
theorem dX1_start_27 : decode cX1_start 27 = .ok (.iconst 1, 1) := by decide +kernel
theorem dX1_start_28 : decode cX1_start 28 = .ok (.goto 4, 3) := by decide +kernel
theorem dX1_start_31 : decode cX1_start 31 = .ok (.iconst 0, 1) := by decide +kernel
theorem dX1_start_32 : decode cX1_start 32 = .ok (.iastore, 1) := by decide +kernel
theorem dX1_start_33 : decode cX1_start 33 = .ok (.iinc 3 1, 3) := by decide +kernel
theorem dX1_start_36 : decode cX1_start 36 = .ok (.goto (-27), 3) := by decide +kernel
theorem dX1_start_39 : decode cX1_start 39 = .ok (.aload_n 0, 1) := by decide +kernel
theorem dX1_start_40 : decode cX1_start 40 = .ok (.aload_n 1, 1) := by decide +kernel
theorem dX1_start_41 : decode cX1_start 41 = .ok (.putfield 27, 3) := by decide +kernel
theorem dX1_start_44 : decode cX1_start 44 = .ok (.aload_n 0, 1) := by decide +kernel
theorem dX1_start_45 : decode cX1_start 45 = .ok (.iload_n 2, 1) := by decide +kernel
theorem dX1_start_46 : decode cX1_start 46 = .ok (.putfield 31, 3) := by decide +kernel
theorem dX1_start_49 : decode cX1_start 49 = .ok (.aload_n 0, 1) := by decide +kernel
theorem dX1_start_50 : decode cX1_start 50 = .ok (.iconst 0, 1) := by decide +kernel
theorem dX1_start_51 : decode cX1_start 51 = .ok (.putfield 35, 3) := by decide +kernel
theorem dX1_start_54 : decode cX1_start 54 = .ok (.aload_n 0, 1) := by decide +kernel
theorem dX1_start_55 : decode cX1_start 55 = .ok (.iconst 0, 1) := by decide +kernel
theorem dX1_start_56 : decode cX1_start 56 = .ok (.putfield 38, 3) := by decide +kernel
theorem dX1_start_59 : decode cX1_start 59 = .ok (.aload_n 0, 1) := by decide +kernel
theorem dX1_start_60 : decode cX1_start 60 = .ok (.iconst (-1), 1) := by decide +kernel
theorem dX1_start_61 : decode cX1_start 61 = .ok (.putfield 41, 3) := by decide +kernel
theorem dX1_start_64 : decode cX1_start 64 = .ok (.return_, 1) := by decide +kernel
theorem dX1_isWhole_0 : decode cX1_isWhole 0 = .ok (.aload_n 0, 1) := by decide +kernel
theorem dX1_isWhole_1 : decode cX1_isWhole 1 = .ok (.getfield 38, 3) := by decide +kernel
theorem dX1_isWhole_4 : decode cX1_isWhole 4 = .ok (.ifCond .ne 7, 3) := by decide +kernel
theorem dX1_isWhole_7 : decode cX1_isWhole 7 = .ok (.iconst 1, 1) := by decide +kernel
theorem dX1_isWhole_8 : decode cX1_isWhole 8 = .ok (.goto 4, 3) := by decide +kernel
theorem dX1_isWhole_11 : decode cX1_isWhole 11 = .ok (.iconst 0, 1) := by decide +kernel
theorem dX1_isWhole_12 : decode cX1_isWhole 12 = .ok (.ireturn, 1) := by decide +kernel
theorem dX1_nextByte_0 : decode cX1_nextByte 0 = .ok (.aload_n 0, 1) := by decide +kernel
theorem dX1_nextByte_1 : decode cX1_nextByte 1 = .ok (.getfield 35, 3) := by decide +kernel
theorem dX1_nextByte_4 : decode cX1_nextByte 4 = .ok (.aload_n 0, 1) := by decide +kernel
theorem dX1_nextByte_5 : decode cX1_nextByte 5 = .ok (.getfield 31, 3) := by decide +kernel
theorem dX1_nextByte_8 : decode cX1_nextByte 8 = .ok (.if_icmp .lt 20, 3) := by decide +kernel
theorem dX1_nextByte_11 : decode cX1_nextByte 11 = .ok (.aload_n 0, 1) := by decide +kernel
theorem dX1_nextByte_12 : decode cX1_nextByte 12 = .ok (.dup, 1) := by decide +kernel
theorem dX1_nextByte_13 : decode cX1_nextByte 13 = .ok (.getfield 35, 3) := by decide +kernel
theorem dX1_nextByte_16 : decode cX1_nextByte 16 = .ok (.iconst 1, 1) := by decide +kernel
theorem dX1_nextByte_17 : decode cX1_nextByte 17 = .ok (.iadd, 1) := by decide +kernel
theorem dX1_nextByte_18 : decode cX1_nextByte 18 = .ok (.putfield 35, 3) := by decide +kernel
theorem dX1_nextByte_21 : decode cX1_nextByte 21 = .ok (.aload_n 0, 1) := by decide +kernel
theorem dX1_nextByte_22 : decode cX1_nextByte 22 = .ok (.iconst 1, 1) := by decide +kernel
theorem dX1_nextByte_23 : decode cX1_nextByte 23 = .ok (.invokevirtual 56, 3) := by decide +kernel
theorem dX1_nextByte_26 : decode cX1_nextByte 26 = .ok (.iconst (-1), 1) := by decide +kernel
theorem dX1_nextByte_27 : decode cX1_nextByte 27 = .ok (.ireturn, 1) := by decide +kernel
theorem dX1_nextByte_28 : decode cX1_nextByte 28 = .ok (.aload_n 0, 1) := by decide +kernel
theorem dX1_nextByte_29 : decode cX1_nextByte 29 = .ok (.getfield 27, 3) := by decide +kernel
theorem dX1_nextByte_32 : decode cX1_nextByte 32 = .ok (.aload_n 0, 1) := by decide +kernel
theorem dX1_nextByte_33 : decode cX1_nextByte 33 = .ok (.getfield 35, 3) := by decide +kernel
theorem dX1_nextByte_36 : decode cX1_nextByte 36 = .ok (.invokevirtual 72, 3) := by decide +kernel
theorem dX1_nextByte_39 : decode cX1_nextByte 39 = .ok (.istore_n 1, 1) := by decide +kernel
theorem dX1_nextByte_40 : decode cX1_nextByte 40 = .ok (.aload_n 0, 1) := by decide +kernel
theorem dX1_nextByte_41 : decode cX1_nextByte 41 = .ok (.dup, 1) := by decide +kernel
theorem dX1_nextByte_42 : decode cX1_nextByte 42 = .ok (.getfield 35, 3) := by decide +kernel
theorem dX1_nextByte_45 : decode cX1_nextByte 45 = .ok (.iconst 1, 1) := by decide +kernel
theorem dX1_nextByte_46 : decode cX1_nextByte 46 = .ok (.iadd, 1) := by decide +kernel
theorem dX1_nextByte_47 : decode cX1_nextByte 47 = .ok (.putfield 35, 3) := by decide +kernel
theorem dX1_nextByte_50 : decode cX1_nextByte 50 = .ok (.iload_n 1, 1) := by decide +kernel
theorem dX1_nextByte_51 : decode cX1_nextByte 51 = .ok (.ireturn, 1) := by decide +kernel
theorem dX1_blame_0 : decode cX1_blame 0 = .ok (.aload_n 0, 1) := by decide +kernel
theorem dX1_blame_1 : decode cX1_blame 1 = .ok (.iload_n 1, 1) := by decide +kernel
theorem dX1_blame_2 : decode cX1_blame 2 = .ok (.putfield 38, 3) := by decide +kernel
theorem dX1_blame_5 : decode cX1_blame 5 = .ok (.aload_n 0, 1) := by decide +kernel
theorem dX1_blame_6 : decode cX1_blame 6 = .ok (.aload_n 0, 1) := by decide +kernel
theorem dX1_blame_7 : decode cX1_blame 7 = .ok (.getfield 35, 3) := by decide +kernel
theorem dX1_blame_10 : decode cX1_blame 10 = .ok (.iconst 1, 1) := by decide +kernel
theorem dX1_blame_11 : decode cX1_blame 11 = .ok (.isub, 1) := by decide +kernel
theorem dX1_blame_12 : decode cX1_blame 12 = .ok (.putfield 41, 3) := by decide +kernel
theorem dX1_blame_15 : decode cX1_blame 15 = .ok (.return_, 1) := by decide +kernel
theorem dX1_lettersOf_0 : decode cX1_lettersOf 0 = .ok (.iload_n 1, 1) := by decide +kernel
theorem dX1_lettersOf_1 : decode cX1_lettersOf 1 = .ok (.ifCond .lt 18, 3) := by decide +kernel
theorem dX1_lettersOf_4 : decode cX1_lettersOf 4 = .ok (.iload_n 1, 1) := by decide +kernel
theorem dX1_lettersOf_5 : decode cX1_lettersOf 5 = .ok (.bipush 86, 2) := by decide +kernel
theorem dX1_lettersOf_7 : decode cX1_lettersOf 7 = .ok (.if_icmp .ge 12, 3) := by decide +kernel
theorem dX1_lettersOf_10 : decode cX1_lettersOf 10 = .ok (.aload_n 0, 1) := by decide +kernel
theorem dX1_lettersOf_11 : decode cX1_lettersOf 11 = .ok (.getfield 18, 3) := by decide +kernel
theorem dX1_lettersOf_14 : decode cX1_lettersOf 14 = .ok (.iload_n 1, 1) := by decide +kernel
theorem dX1_lettersOf_15 : decode cX1_lettersOf 15 = .ok (.iaload, 1) := by decide +kernel
theorem dX1_lettersOf_16 : decode cX1_lettersOf 16 = .ok (.goto 4, 3) := by decide +kernel
theorem dX1_lettersOf_19 : decode cX1_lettersOf 19 = .ok (.iconst 0, 1) := by decide +kernel
theorem dX1_lettersOf_20 : decode cX1_lettersOf 20 = .ok (.ireturn, 1) := by decide +kernel
theorem dX1_readRule_0 : decode cX1_readRule 0 = .ok (.aload_n 0, 1) := by decide +kernel
theorem dX1_readRule_1 : decode cX1_readRule 1 = .ok (.invokevirtual 48, 3) := by decide +kernel
theorem dX1_readRule_4 : decode cX1_readRule 4 = .ok (.istore_n 1, 1) := by decide +kernel
theorem dX1_readRule_5 : decode cX1_readRule 5 = .ok (.aload_n 0, 1) := by decide +kernel
theorem dX1_readRule_6 : decode cX1_readRule 6 = .ok (.invokevirtual 52, 3) := by decide +kernel
theorem dX1_readRule_9 : decode cX1_readRule 9 = .ok (.ifCond .ne 4, 3) := by decide +kernel
theorem dX1_readRule_12 : decode cX1_readRule 12 = .ok (.return_, 1) := by decide +kernel
theorem dX1_readRule_13 : decode cX1_readRule 13 = .ok (.iload_n 1, 1) := by decide +kernel
theorem dX1_readRule_14 : decode cX1_readRule 14 = .ok (.bipush 26, 2) := by decide +kernel
theorem dX1_readRule_16 : decode cX1_readRule 16 = .ok (.if_icmp .lt 9, 3) := by decide +kernel
theorem dX1_readRule_19 : decode cX1_readRule 19 = .ok (.iload_n 1, 1) := by decide +kernel
theorem dX1_readRule_20 : decode cX1_readRule 20 = .ok (.bipush 86, 2) := by decide +kernel
theorem dX1_readRule_22 : decode cX1_readRule 22 = .ok (.if_icmp .lt 9, 3) := by decide +kernel
theorem dX1_readRule_25 : decode cX1_readRule 25 = .ok (.aload_n 0, 1) := by decide +kernel
theorem dX1_readRule_26 : decode cX1_readRule 26 = .ok (.iconst 2, 1) := by decide +kernel
theorem dX1_readRule_27 : decode cX1_readRule 27 = .ok (.invokevirtual 56, 3) := by decide +kernel
theorem dX1_readRule_30 : decode cX1_readRule 30 = .ok (.return_, 1) := by decide +kernel
theorem dX1_readRule_31 : decode cX1_readRule 31 = .ok (.aload_n 0, 1) := by decide +kernel
theorem dX1_readRule_32 : decode cX1_readRule 32 = .ok (.iload_n 1, 1) := by decide +kernel
theorem dX1_readRule_33 : decode cX1_readRule 33 = .ok (.invokevirtual 76, 3) := by decide +kernel
theorem dX1_readRule_36 : decode cX1_readRule 36 = .ok (.ifCond .le 9, 3) := by decide +kernel
theorem dX1_readRule_39 : decode cX1_readRule 39 = .ok (.aload_n 0, 1) := by decide +kernel
theorem dX1_readRule_40 : decode cX1_readRule 40 = .ok (.iconst 3, 1) := by decide +kernel
theorem dX1_readRule_41 : decode cX1_readRule 41 = .ok (.invokevirtual 56, 3) := by decide +kernel
theorem dX1_readRule_44 : decode cX1_readRule 44 = .ok (.return_, 1) := by decide +kernel
theorem dX1_readRule_45 : decode cX1_readRule 45 = .ok (.aload_n 0, 1) := by decide +kernel
theorem dX1_readRule_46 : decode cX1_readRule 46 = .ok (.invokevirtual 48, 3) := by decide +kernel
theorem dX1_readRule_49 : decode cX1_readRule 49 = .ok (.istore_n 2, 1) := by decide +kernel
theorem dX1_readRule_50 : decode cX1_readRule 50 = .ok (.aload_n 0, 1) := by decide +kernel
theorem dX1_readRule_51 : decode cX1_readRule 51 = .ok (.invokevirtual 52, 3) := by decide +kernel
theorem dX1_readRule_54 : decode cX1_readRule 54 = .ok (.ifCond .eq 19, 3) := by decide +kernel
theorem dX1_readRule_57 : decode cX1_readRule 57 = .ok (.iload_n 2, 1) := by decide +kernel
theorem dX1_readRule_58 : decode cX1_readRule 58 = .ok (.iconst 2, 1) := by decide +kernel
theorem dX1_readRule_59 : decode cX1_readRule 59 = .ok (.if_icmp .lt 9, 3) := by decide +kernel
theorem dX1_readRule_62 : decode cX1_readRule 62 = .ok (.iload_n 2, 1) := by decide +kernel
theorem dX1_readRule_63 : decode cX1_readRule 63 = .ok (.bipush 12, 2) := by decide +kernel
theorem dX1_readRule_65 : decode cX1_readRule 65 = .ok (.if_icmp .le 8, 3) := by decide +kernel
theorem dX1_readRule_68 : decode cX1_readRule 68 = .ok (.aload_n 0, 1) := by decide +kernel
theorem dX1_readRule_69 : decode cX1_readRule 69 = .ok (.iconst 2, 1) := by decide +kernel
theorem dX1_readRule_70 : decode cX1_readRule 70 = .ok (.invokevirtual 56, 3) := by decide +kernel
theorem dX1_readRule_73 : decode cX1_readRule 73 = .ok (.aload_n 0, 1) := by decide +kernel
theorem dX1_readRule_74 : decode cX1_readRule 74 = .ok (.getfield 18, 3) := by decide +kernel
theorem dX1_readRule_77 : decode cX1_readRule 77 = .ok (.iload_n 1, 1) := by decide +kernel
theorem dX1_readRule_78 : decode cX1_readRule 78 = .ok (.aload_n 0, 1) := by decide +kernel
theorem dX1_readRule_79 : decode cX1_readRule 79 = .ok (.aload_n 0, 1) := by decide +kernel
theorem dX1_readRule_80 : decode cX1_readRule 80 = .ok (.getfield 12, 3) := by decide +kernel
theorem dX1_readRule_83 : decode cX1_readRule 83 = .ok (.iload_n 1, 1) := by decide +kernel
theorem dX1_readRule_84 : decode cX1_readRule 84 = .ok (.invokevirtual 79, 3) := by decide +kernel
theorem dX1_readRule_87 : decode cX1_readRule 87 = .ok (.iload_n 2, 1) := by decide +kernel
theorem dX1_readRule_88 : decode cX1_readRule 88 = .ok (.invokevirtual 83, 3) := by decide +kernel
theorem dX1_readRule_91 : decode cX1_readRule 91 = .ok (.iastore, 1) := by decide +kernel
theorem dX1_readRule_92 : decode cX1_readRule 92 = .ok (.return_, 1) := by decide +kernel
theorem dX1_readSequence_0 : decode cX1_readSequence 0 = .ok (.aload_n 0, 1) := by decide +kernel
theorem dX1_readSequence_1 : decode cX1_readSequence 1 = .ok (.invokevirtual 48, 3) := by decide +kernel
theorem dX1_readSequence_4 : decode cX1_readSequence 4 = .ok (.istore_n 1, 1) := by decide +kernel
theorem dX1_readSequence_5 : decode cX1_readSequence 5 = .ok (.aload_n 0, 1) := by decide +kernel
theorem dX1_readSequence_6 : decode cX1_readSequence 6 = .ok (.invokevirtual 52, 3) := by decide +kernel
theorem dX1_readSequence_9 : decode cX1_readSequence 9 = .ok (.ifCond .eq 15, 3) := by decide +kernel
theorem dX1_readSequence_12 : decode cX1_readSequence 12 = .ok (.iload_n 1, 1) := by decide +kernel
theorem dX1_readSequence_13 : decode cX1_readSequence 13 = .ok (.sipush 240, 3) := by decide +kernel
theorem dX1_readSequence_16 : decode cX1_readSequence 16 = .ok (.if_icmp .le 8, 3) := by decide +kernel
theorem dX1_readSequence_19 : decode cX1_readSequence 19 = .ok (.aload_n 0, 1) := by decide +kernel
theorem dX1_readSequence_20 : decode cX1_readSequence 20 = .ok (.iconst 2, 1) := by decide +kernel
theorem dX1_readSequence_21 : decode cX1_readSequence 21 = .ok (.invokevirtual 56, 3) := by decide +kernel
theorem dX1_readSequence_24 : decode cX1_readSequence 24 = .ok (.aload_n 0, 1) := by decide +kernel
theorem dX1_readSequence_25 : decode cX1_readSequence 25 = .ok (.aload_n 0, 1) := by decide +kernel
theorem dX1_readSequence_26 : decode cX1_readSequence 26 = .ok (.getfield 12, 3) := by decide +kernel
theorem dX1_readSequence_29 : decode cX1_readSequence 29 = .ok (.invokevirtual 87, 3) := by decide +kernel
theorem dX1_readSequence_32 : decode cX1_readSequence 32 = .ok (.iload_n 1, 1) := by decide +kernel
theorem dX1_readSequence_33 : decode cX1_readSequence 33 = .ok (.invokevirtual 83, 3) := by decide +kernel
theorem dX1_readSequence_36 : decode cX1_readSequence 36 = .ok (.pop, 1) := by decide +kernel
theorem dX1_readSequence_37 : decode cX1_readSequence 37 = .ok (.return_, 1) := by decide +kernel
theorem dX1_readRow_0 : decode cX1_readRow 0 = .ok (.iconst 0, 1) := by decide +kernel
theorem dX1_readRow_1 : decode cX1_readRow 1 = .ok (.istore_n 3, 1) := by decide +kernel
theorem dX1_readRow_2 : decode cX1_readRow 2 = .ok (.iconst 0, 1) := by decide +kernel
theorem dX1_readRow_3 : decode cX1_readRow 3 = .ok (.istore 4, 2) := by decide +kernel
theorem dX1_readRow_5 : decode cX1_readRow 5 = .ok (.iload 4, 2) := by decide +kernel
theorem dX1_readRow_7 : decode cX1_readRow 7 = .ok (.iload_n 2, 1) := by decide +kernel
theorem dX1_readRow_8 : decode cX1_readRow 8 = .ok (.if_icmp .ge 73, 3) := by decide +kernel
theorem dX1_readRow_11 : decode cX1_readRow 11 = .ok (.aload_n 0, 1) := by decide +kernel
theorem dX1_readRow_12 : decode cX1_readRow 12 = .ok (.invokevirtual 52, 3) := by decide +kernel
theorem dX1_readRow_15 : decode cX1_readRow 15 = .ok (.ifCond .eq 66, 3) := by decide +kernel
theorem dX1_readRow_18 : decode cX1_readRow 18 = .ok (.aload_n 0, 1) := by decide +kernel
theorem dX1_readRow_19 : decode cX1_readRow 19 = .ok (.invokevirtual 48, 3) := by decide +kernel
theorem dX1_readRow_22 : decode cX1_readRow 22 = .ok (.istore 5, 2) := by decide +kernel
theorem dX1_readRow_24 : decode cX1_readRow 24 = .ok (.aload_n 0, 1) := by decide +kernel
theorem dX1_readRow_25 : decode cX1_readRow 25 = .ok (.invokevirtual 52, 3) := by decide +kernel
theorem dX1_readRow_28 : decode cX1_readRow 28 = .ok (.ifCond .eq 47, 3) := by decide +kernel
theorem dX1_readRow_31 : decode cX1_readRow 31 = .ok (.iload_n 3, 1) := by decide +kernel
theorem dX1_readRow_32 : decode cX1_readRow 32 = .ok (.aload_n 0, 1) := by decide +kernel
theorem dX1_readRow_33 : decode cX1_readRow 33 = .ok (.iload 5, 2) := by decide +kernel
theorem dX1_readRow_35 : decode cX1_readRow 35 = .ok (.invokevirtual 76, 3) := by decide +kernel
theorem dX1_readRow_38 : decode cX1_readRow 38 = .ok (.iadd, 1) := by decide +kernel
theorem dX1_readRow_39 : decode cX1_readRow 39 = .ok (.istore_n 3, 1) := by decide +kernel
theorem dX1_readRow_40 : decode cX1_readRow 40 = .ok (.aload_n 0, 1) := by decide +kernel
theorem dX1_readRow_41 : decode cX1_readRow 41 = .ok (.iload 5, 2) := by decide +kernel
theorem dX1_readRow_43 : decode cX1_readRow 43 = .ok (.invokevirtual 76, 3) := by decide +kernel
theorem dX1_readRow_46 : decode cX1_readRow 46 = .ok (.ifCond .ne 11, 3) := by decide +kernel
theorem dX1_readRow_49 : decode cX1_readRow 49 = .ok (.aload_n 0, 1) := by decide +kernel
theorem dX1_readRow_50 : decode cX1_readRow 50 = .ok (.iconst 3, 1) := by decide +kernel
theorem dX1_readRow_51 : decode cX1_readRow 51 = .ok (.invokevirtual 56, 3) := by decide +kernel
theorem dX1_readRow_54 : decode cX1_readRow 54 = .ok (.goto 15, 3) := by decide +kernel
theorem dX1_readRow_57 : decode cX1_readRow 57 = .ok (.iload_n 3, 1) := by decide +kernel
theorem dX1_readRow_58 : decode cX1_readRow 58 = .ok (.sipush 240, 3) := by decide +kernel
theorem dX1_readRow_61 : decode cX1_readRow 61 = .ok (.if_icmp .le 8, 3) := by decide +kernel
theorem dX1_readRow_64 : decode cX1_readRow 64 = .ok (.aload_n 0, 1) := by decide +kernel
theorem dX1_readRow_65 : decode cX1_readRow 65 = .ok (.iconst 4, 1) := by decide +kernel
theorem dX1_readRow_66 : decode cX1_readRow 66 = .ok (.invokevirtual 56, 3) := by decide +kernel
theorem dX1_readRow_69 : decode cX1_readRow 69 = .ok (.aload_n 1, 1) := by decide +kernel
theorem dX1_readRow_70 : decode cX1_readRow 70 = .ok (.iload 5, 2) := by decide +kernel
theorem dX1_readRow_72 : decode cX1_readRow 72 = .ok (.invokevirtual 91, 3) := by decide +kernel
theorem dX1_readRow_75 : decode cX1_readRow 75 = .ok (.iinc 4 1, 3) := by decide +kernel
theorem dX1_readRow_78 : decode cX1_readRow 78 = .ok (.goto (-73), 3) := by decide +kernel
theorem dX1_readRow_81 : decode cX1_readRow 81 = .ok (.iload_n 3, 1) := by decide +kernel
theorem dX1_readRow_82 : decode cX1_readRow 82 = .ok (.ireturn, 1) := by decide +kernel
theorem dX2_init_0 : decode cX2_init 0 = .ok (.aload_n 0, 1) := by decide +kernel
theorem dX2_init_1 : decode cX2_init 1 = .ok (.invokespecial 3, 3) := by decide +kernel
theorem dX2_init_4 : decode cX2_init 4 = .ok (.aload_n 0, 1) := by decide +kernel
theorem dX2_init_5 : decode cX2_init 5 = .ok (.new 9, 3) := by decide +kernel
theorem dX2_init_8 : decode cX2_init 8 = .ok (.dup, 1) := by decide +kernel
theorem dX2_init_9 : decode cX2_init 9 = .ok (.sipush 240, 3) := by decide +kernel
theorem dX2_init_12 : decode cX2_init 12 = .ok (.invokespecial 11, 3) := by decide +kernel
theorem dX2_init_15 : decode cX2_init 15 = .ok (.putfield 14, 3) := by decide +kernel
theorem dX2_init_18 : decode cX2_init 18 = .ok (.aload_n 0, 1) := by decide +kernel
theorem dX2_init_19 : decode cX2_init 19 = .ok (.bipush 60, 2) := by decide +kernel
theorem dX2_init_21 : decode cX2_init 21 = .ok (.anewarray 9, 3) := by decide +kernel
theorem dX2_init_24 : decode cX2_init 24 = .ok (.putfield 20, 3) := by decide +kernel
theorem dX2_init_27 : decode cX2_init 27 = .ok (.aload_n 0, 1) := by decide +kernel
theorem dX2_init_28 : decode cX2_init 28 = .ok (.new 9, 3) := by decide +kernel
theorem dX2_init_31 : decode cX2_init 31 = .ok (.dup, 1) := by decide +kernel
theorem dX2_init_32 : decode cX2_init 32 = .ok (.iconst 0, 1) := by decide +kernel
theorem dX2_init_33 : decode cX2_init 33 = .ok (.invokespecial 11, 3) := by decide +kernel
theorem dX2_init_36 : decode cX2_init 36 = .ok (.putfield 24, 3) := by decide +kernel
theorem dX2_init_39 : decode cX2_init 39 = .ok (.iconst 0, 1) := by decide +kernel
theorem dX2_init_40 : decode cX2_init 40 = .ok (.istore_n 1, 1) := by decide +kernel
theorem dX2_init_41 : decode cX2_init 41 = .ok (.iload_n 1, 1) := by decide +kernel
theorem dX2_init_42 : decode cX2_init 42 = .ok (.bipush 60, 2) := by decide +kernel
theorem dX2_init_44 : decode cX2_init 44 = .ok (.if_icmp .ge 24, 3) := by decide +kernel
theorem dX2_init_47 : decode cX2_init 47 = .ok (.aload_n 0, 1) := by decide +kernel
theorem dX2_init_48 : decode cX2_init 48 = .ok (.getfield 20, 3) := by decide +kernel
theorem dX2_init_51 : decode cX2_init 51 = .ok (.iload_n 1, 1) := by decide +kernel
theorem dX2_init_52 : decode cX2_init 52 = .ok (.new 9, 3) := by decide +kernel
theorem dX2_init_55 : decode cX2_init 55 = .ok (.dup, 1) := by decide +kernel
theorem dX2_init_56 : decode cX2_init 56 = .ok (.bipush 12, 2) := by decide +kernel
theorem dX2_init_58 : decode cX2_init 58 = .ok (.invokespecial 11, 3) := by decide +kernel
theorem dX2_init_61 : decode cX2_init 61 = .ok (.aastore, 1) := by decide +kernel
theorem dX2_init_62 : decode cX2_init 62 = .ok (.iinc 1 1, 3) := by decide +kernel
theorem dX2_init_65 : decode cX2_init 65 = .ok (.goto (-24), 3) := by decide +kernel
theorem dX2_init_68 : decode cX2_init 68 = .ok (.return_, 1) := by decide +kernel
theorem dX2_sequence_0 : decode cX2_sequence 0 = .ok (.aload_n 0, 1) := by decide +kernel
theorem dX2_sequence_1 : decode cX2_sequence 1 = .ok (.getfield 14, 3) := by decide +kernel
theorem dX2_sequence_4 : decode cX2_sequence 4 = .ok (.areturn, 1) := by decide +kernel
theorem dX2_rowOf_0 : decode cX2_rowOf 0 = .ok (.iload_n 1, 1) := by decide +kernel
theorem dX2_rowOf_1 : decode cX2_rowOf 1 = .ok (.bipush 26, 2) := by decide +kernel
theorem dX2_rowOf_3 : decode cX2_rowOf 3 = .ok (.if_icmp .lt 21, 3) := by decide +kernel
theorem dX2_rowOf_6 : decode cX2_rowOf 6 = .ok (.iload_n 1, 1) := by decide +kernel
theorem dX2_rowOf_7 : decode cX2_rowOf 7 = .ok (.bipush 86, 2) := by decide +kernel
theorem dX2_rowOf_9 : decode cX2_rowOf 9 = .ok (.if_icmp .ge 15, 3) := by decide +kernel
theorem dX2_rowOf_12 : decode cX2_rowOf 12 = .ok (.aload_n 0, 1) := by decide +kernel
theorem dX2_rowOf_13 : decode cX2_rowOf 13 = .ok (.getfield 20, 3) := by decide +kernel
theorem dX2_rowOf_16 : decode cX2_rowOf 16 = .ok (.iload_n 1, 1) := by decide +kernel
theorem dX2_rowOf_17 : decode cX2_rowOf 17 = .ok (.bipush 26, 2) := by decide +kernel
theorem dX2_rowOf_19 : decode cX2_rowOf 19 = .ok (.isub, 1) := by decide +kernel
theorem dX2_rowOf_20 : decode cX2_rowOf 20 = .ok (.aaload, 1) := by decide +kernel
theorem dX2_rowOf_21 : decode cX2_rowOf 21 = .ok (.goto 7, 3) := by decide +kernel
theorem dX2_rowOf_24 : decode cX2_rowOf 24 = .ok (.aload_n 0, 1) := by decide +kernel
theorem dX2_rowOf_25 : decode cX2_rowOf 25 = .ok (.getfield 24, 3) := by decide +kernel
theorem dX2_rowOf_28 : decode cX2_rowOf 28 = .ok (.areturn, 1) := by decide +kernel
theorem dX2_isRule_0 : decode cX2_isRule 0 = .ok (.aload_n 0, 1) := by decide +kernel
theorem dX2_isRule_1 : decode cX2_isRule 1 = .ok (.iload_n 1, 1) := by decide +kernel
theorem dX2_isRule_2 : decode cX2_isRule 2 = .ok (.invokevirtual 27, 3) := by decide +kernel
theorem dX2_isRule_5 : decode cX2_isRule 5 = .ok (.invokevirtual 31, 3) := by decide +kernel
theorem dX2_isRule_8 : decode cX2_isRule 8 = .ok (.ifCond .le 7, 3) := by decide +kernel
theorem dX2_isRule_11 : decode cX2_isRule 11 = .ok (.iconst 1, 1) := by decide +kernel
theorem dX2_isRule_12 : decode cX2_isRule 12 = .ok (.goto 4, 3) := by decide +kernel
theorem dX2_isRule_15 : decode cX2_isRule 15 = .ok (.iconst 0, 1) := by decide +kernel
theorem dX2_isRule_16 : decode cX2_isRule 16 = .ok (.ireturn, 1) := by decide +kernel
theorem dX2_has_0 : decode cX2_has 0 = .ok (.iload_n 1, 1) := by decide +kernel
theorem dX2_has_1 : decode cX2_has 1 = .ok (.invokestatic 35, 3) := by decide +kernel
theorem dX2_has_4 : decode cX2_has 4 = .ok (.ifCond .ne 11, 3) := by decide +kernel
theorem dX2_has_7 : decode cX2_has 7 = .ok (.aload_n 0, 1) := by decide +kernel
theorem dX2_has_8 : decode cX2_has 8 = .ok (.iload_n 1, 1) := by decide +kernel
theorem dX2_has_9 : decode cX2_has 9 = .ok (.invokevirtual 39, 3) := by decide +kernel
theorem dX2_has_12 : decode cX2_has 12 = .ok (.ifCond .eq 7, 3) := by decide +kernel
theorem dX2_has_15 : decode cX2_has 15 = .ok (.iconst 1, 1) := by decide +kernel
theorem dX2_has_16 : decode cX2_has 16 = .ok (.goto 4, 3) := by decide +kernel
theorem dX2_has_19 : decode cX2_has 19 = .ok (.iconst 0, 1) := by decide +kernel
theorem dX2_has_20 : decode cX2_has 20 = .ok (.ireturn, 1) := by decide +kernel
theorem dX2_clear_0 : decode cX2_clear 0 = .ok (.aload_n 0, 1) := by decide +kernel
theorem dX2_clear_1 : decode cX2_clear 1 = .ok (.getfield 14, 3) := by decide +kernel
theorem dX2_clear_4 : decode cX2_clear 4 = .ok (.invokevirtual 42, 3) := by decide +kernel
theorem dX2_clear_7 : decode cX2_clear 7 = .ok (.iconst 0, 1) := by decide +kernel
theorem dX2_clear_8 : decode cX2_clear 8 = .ok (.istore_n 1, 1) := by decide +kernel
theorem dX2_clear_9 : decode cX2_clear 9 = .ok (.iload_n 1, 1) := by decide +kernel
theorem dX2_clear_10 : decode cX2_clear 10 = .ok (.bipush 60, 2) := by decide +kernel
theorem dX2_clear_12 : decode cX2_clear 12 = .ok (.if_icmp .ge 18, 3) := by decide +kernel
theorem dX2_clear_15 : decode cX2_clear 15 = .ok (.aload_n 0, 1) := by decide +kernel
theorem dX2_clear_16 : decode cX2_clear 16 = .ok (.getfield 20, 3) := by decide +kernel
theorem dX2_clear_19 : decode cX2_clear 19 = .ok (.iload_n 1, 1) := by decide +kernel
theorem dX2_clear_20 : decode cX2_clear 20 = .ok (.aaload, 1) := by decide +kernel
theorem dX2_clear_21 : decode cX2_clear 21 = .ok (.invokevirtual 42, 3) := by decide +kernel
theorem dX2_clear_24 : decode cX2_clear 24 = .ok (.iinc 1 1, 3) := by decide +kernel
theorem dX2_clear_27 : decode cX2_clear 27 = .ok (.goto (-18), 3) := by decide +kernel
theorem dX2_clear_30 : decode cX2_clear 30 = .ok (.return_, 1) := by decide +kernel
theorem dX2_take_0 : decode cX2_take 0 = .ok (.aload_n 0, 1) := by decide +kernel
theorem dX2_take_1 : decode cX2_take 1 = .ok (.getfield 14, 3) := by decide +kernel
theorem dX2_take_4 : decode cX2_take 4 = .ok (.aload_n 1, 1) := by decide +kernel
theorem dX2_take_5 : decode cX2_take 5 = .ok (.getfield 14, 3) := by decide +kernel
theorem dX2_take_8 : decode cX2_take 8 = .ok (.invokevirtual 45, 3) := by decide +kernel
theorem dX2_take_11 : decode cX2_take 11 = .ok (.iconst 0, 1) := by decide +kernel
theorem dX2_take_12 : decode cX2_take 12 = .ok (.istore_n 2, 1) := by decide +kernel
theorem dX2_take_13 : decode cX2_take 13 = .ok (.iload_n 2, 1) := by decide +kernel
theorem dX2_take_14 : decode cX2_take 14 = .ok (.bipush 60, 2) := by decide +kernel
theorem dX2_take_16 : decode cX2_take 16 = .ok (.if_icmp .ge 24, 3) := by decide +kernel
theorem dX2_take_19 : decode cX2_take 19 = .ok (.aload_n 0, 1) := by decide +kernel
theorem dX2_take_20 : decode cX2_take 20 = .ok (.getfield 20, 3) := by decide +kernel
theorem dX2_take_23 : decode cX2_take 23 = .ok (.iload_n 2, 1) := by decide +kernel
theorem dX2_take_24 : decode cX2_take 24 = .ok (.aaload, 1) := by decide +kernel
theorem dX2_take_25 : decode cX2_take 25 = .ok (.aload_n 1, 1) := by decide +kernel
theorem dX2_take_26 : decode cX2_take 26 = .ok (.getfield 20, 3) := by decide +kernel
theorem dX2_take_29 : decode cX2_take 29 = .ok (.iload_n 2, 1) := by decide +kernel
theorem dX2_take_30 : decode cX2_take 30 = .ok (.aaload, 1) := by decide +kernel
theorem dX2_take_31 : decode cX2_take 31 = .ok (.invokevirtual 45, 3) := by decide +kernel
theorem dX2_take_34 : decode cX2_take 34 = .ok (.iinc 2 1, 3) := by decide +kernel
theorem dX2_take_37 : decode cX2_take 37 = .ok (.goto (-24), 3) := by decide +kernel
theorem dX2_take_40 : decode cX2_take 40 = .ok (.return_, 1) := by decide +kernel
theorem dX2_ruleCount_0 : decode cX2_ruleCount 0 = .ok (.iconst 0, 1) := by decide +kernel
theorem dX2_ruleCount_1 : decode cX2_ruleCount 1 = .ok (.istore_n 1, 1) := by decide +kernel
theorem dX2_ruleCount_2 : decode cX2_ruleCount 2 = .ok (.iconst 0, 1) := by decide +kernel
theorem dX2_ruleCount_3 : decode cX2_ruleCount 3 = .ok (.istore_n 2, 1) := by decide +kernel
theorem dX2_ruleCount_4 : decode cX2_ruleCount 4 = .ok (.iload_n 2, 1) := by decide +kernel
theorem dX2_ruleCount_5 : decode cX2_ruleCount 5 = .ok (.bipush 60, 2) := by decide +kernel
theorem dX2_ruleCount_7 : decode cX2_ruleCount 7 = .ok (.if_icmp .ge 24, 3) := by decide +kernel
theorem dX2_ruleCount_10 : decode cX2_ruleCount 10 = .ok (.aload_n 0, 1) := by decide +kernel
theorem dX2_ruleCount_11 : decode cX2_ruleCount 11 = .ok (.getfield 20, 3) := by decide +kernel
theorem dX2_ruleCount_14 : decode cX2_ruleCount 14 = .ok (.iload_n 2, 1) := by decide +kernel
theorem dX2_ruleCount_15 : decode cX2_ruleCount 15 = .ok (.aaload, 1) := by decide +kernel
theorem dX2_ruleCount_16 : decode cX2_ruleCount 16 = .ok (.invokevirtual 31, 3) := by decide +kernel
theorem dX2_ruleCount_19 : decode cX2_ruleCount 19 = .ok (.ifCond .le 6, 3) := by decide +kernel
theorem dX2_ruleCount_22 : decode cX2_ruleCount 22 = .ok (.iinc 1 1, 3) := by decide +kernel
theorem dX2_ruleCount_25 : decode cX2_ruleCount 25 = .ok (.iinc 2 1, 3) := by decide +kernel
theorem dX2_ruleCount_28 : decode cX2_ruleCount 28 = .ok (.goto (-24), 3) := by decide +kernel
theorem dX2_ruleCount_31 : decode cX2_ruleCount 31 = .ok (.iload_n 1, 1) := by decide +kernel
theorem dX2_ruleCount_32 : decode cX2_ruleCount 32 = .ok (.ireturn, 1) := by decide +kernel
theorem dX2_size_0 : decode cX2_size 0 = .ok (.aload_n 0, 1) := by decide +kernel
theorem dX2_size_1 : decode cX2_size 1 = .ok (.getfield 14, 3) := by decide +kernel
theorem dX2_size_4 : decode cX2_size 4 = .ok (.invokevirtual 31, 3) := by decide +kernel
theorem dX2_size_7 : decode cX2_size 7 = .ok (.istore_n 1, 1) := by decide +kernel
theorem dX2_size_8 : decode cX2_size 8 = .ok (.iconst 0, 1) := by decide +kernel
theorem dX2_size_9 : decode cX2_size 9 = .ok (.istore_n 2, 1) := by decide +kernel
theorem dX2_size_10 : decode cX2_size 10 = .ok (.iload_n 2, 1) := by decide +kernel
theorem dX2_size_11 : decode cX2_size 11 = .ok (.bipush 60, 2) := by decide +kernel
theorem dX2_size_13 : decode cX2_size 13 = .ok (.if_icmp .ge 21, 3) := by decide +kernel
theorem dX2_size_16 : decode cX2_size 16 = .ok (.iload_n 1, 1) := by decide +kernel
theorem dX2_size_17 : decode cX2_size 17 = .ok (.aload_n 0, 1) := by decide +kernel
theorem dX2_size_18 : decode cX2_size 18 = .ok (.getfield 20, 3) := by decide +kernel
theorem dX2_size_21 : decode cX2_size 21 = .ok (.iload_n 2, 1) := by decide +kernel
theorem dX2_size_22 : decode cX2_size 22 = .ok (.aaload, 1) := by decide +kernel
theorem dX2_size_23 : decode cX2_size 23 = .ok (.invokevirtual 31, 3) := by decide +kernel
theorem dX2_size_26 : decode cX2_size 26 = .ok (.iadd, 1) := by decide +kernel
theorem dX2_size_27 : decode cX2_size 27 = .ok (.istore_n 1, 1) := by decide +kernel
theorem dX2_size_28 : decode cX2_size 28 = .ok (.iinc 2 1, 3) := by decide +kernel
theorem dX2_size_31 : decode cX2_size 31 = .ok (.goto (-21), 3) := by decide +kernel
theorem dX2_size_34 : decode cX2_size 34 = .ok (.iload_n 1, 1) := by decide +kernel
theorem dX2_size_35 : decode cX2_size 35 = .ok (.ireturn, 1) := by decide +kernel
theorem dX2_usesOf_0 : decode cX2_usesOf 0 = .ok (.aload_n 0, 1) := by decide +kernel
theorem dX2_usesOf_1 : decode cX2_usesOf 1 = .ok (.getfield 14, 3) := by decide +kernel
theorem dX2_usesOf_4 : decode cX2_usesOf 4 = .ok (.iload_n 1, 1) := by decide +kernel
theorem dX2_usesOf_5 : decode cX2_usesOf 5 = .ok (.invokevirtual 49, 3) := by decide +kernel
theorem dX2_usesOf_8 : decode cX2_usesOf 8 = .ok (.istore_n 2, 1) := by decide +kernel
theorem dX2_usesOf_9 : decode cX2_usesOf 9 = .ok (.iconst 0, 1) := by decide +kernel
theorem dX2_usesOf_10 : decode cX2_usesOf 10 = .ok (.istore_n 3, 1) := by decide +kernel
theorem dX2_usesOf_11 : decode cX2_usesOf 11 = .ok (.iload_n 3, 1) := by decide +kernel
theorem dX2_usesOf_12 : decode cX2_usesOf 12 = .ok (.bipush 60, 2) := by decide +kernel
theorem dX2_usesOf_14 : decode cX2_usesOf 14 = .ok (.if_icmp .ge 22, 3) := by decide +kernel
theorem dX2_usesOf_17 : decode cX2_usesOf 17 = .ok (.iload_n 2, 1) := by decide +kernel
theorem dX2_usesOf_18 : decode cX2_usesOf 18 = .ok (.aload_n 0, 1) := by decide +kernel
theorem dX2_usesOf_19 : decode cX2_usesOf 19 = .ok (.getfield 20, 3) := by decide +kernel
theorem dX2_usesOf_22 : decode cX2_usesOf 22 = .ok (.iload_n 3, 1) := by decide +kernel
theorem dX2_usesOf_23 : decode cX2_usesOf 23 = .ok (.aaload, 1) := by decide +kernel
theorem dX2_usesOf_24 : decode cX2_usesOf 24 = .ok (.iload_n 1, 1) := by decide +kernel
theorem dX2_usesOf_25 : decode cX2_usesOf 25 = .ok (.invokevirtual 49, 3) := by decide +kernel
theorem dX2_usesOf_28 : decode cX2_usesOf 28 = .ok (.iadd, 1) := by decide +kernel
theorem dX2_usesOf_29 : decode cX2_usesOf 29 = .ok (.istore_n 2, 1) := by decide +kernel
theorem dX2_usesOf_30 : decode cX2_usesOf 30 = .ok (.iinc 3 1, 3) := by decide +kernel
theorem dX2_usesOf_33 : decode cX2_usesOf 33 = .ok (.goto (-22), 3) := by decide +kernel
theorem dX2_usesOf_36 : decode cX2_usesOf 36 = .ok (.iload_n 2, 1) := by decide +kernel
theorem dX2_usesOf_37 : decode cX2_usesOf 37 = .ok (.ireturn, 1) := by decide +kernel
theorem dX2_freeSign_0 : decode cX2_freeSign 0 = .ok (.iconst 0, 1) := by decide +kernel
theorem dX2_freeSign_1 : decode cX2_freeSign 1 = .ok (.istore_n 1, 1) := by decide +kernel
theorem dX2_freeSign_2 : decode cX2_freeSign 2 = .ok (.iload_n 1, 1) := by decide +kernel
theorem dX2_freeSign_3 : decode cX2_freeSign 3 = .ok (.bipush 60, 2) := by decide +kernel
theorem dX2_freeSign_5 : decode cX2_freeSign 5 = .ok (.if_icmp .ge 26, 3) := by decide +kernel
theorem dX2_freeSign_8 : decode cX2_freeSign 8 = .ok (.aload_n 0, 1) := by decide +kernel
theorem dX2_freeSign_9 : decode cX2_freeSign 9 = .ok (.getfield 20, 3) := by decide +kernel
theorem dX2_freeSign_12 : decode cX2_freeSign 12 = .ok (.iload_n 1, 1) := by decide +kernel
theorem dX2_freeSign_13 : decode cX2_freeSign 13 = .ok (.aaload, 1) := by decide +kernel
theorem dX2_freeSign_14 : decode cX2_freeSign 14 = .ok (.invokevirtual 31, 3) := by decide +kernel
theorem dX2_freeSign_17 : decode cX2_freeSign 17 = .ok (.ifCond .ne 8, 3) := by decide +kernel
theorem dX2_freeSign_20 : decode cX2_freeSign 20 = .ok (.bipush 26, 2) := by decide +kernel
theorem dX2_freeSign_22 : decode cX2_freeSign 22 = .ok (.iload_n 1, 1) := by decide +kernel
theorem dX2_freeSign_23 : decode cX2_freeSign 23 = .ok (.iadd, 1) := by decide +kernel
theorem dX2_freeSign_24 : decode cX2_freeSign 24 = .ok (.ireturn, 1) := by decide +kernel
theorem dX2_freeSign_25 : decode cX2_freeSign 25 = .ok (.iinc 1 1, 3) := by decide +kernel
theorem dX2_freeSign_28 : decode cX2_freeSign 28 = .ok (.goto (-26), 3) := by decide +kernel
theorem dX2_freeSign_31 : decode cX2_freeSign 31 = .ok (.iconst (-1), 1) := by decide +kernel
theorem dX2_freeSign_32 : decode cX2_freeSign 32 = .ok (.ireturn, 1) := by decide +kernel
theorem dX2_ruleOf_0 : decode cX2_ruleOf 0 = .ok (.iconst 0, 1) := by decide +kernel
theorem dX2_ruleOf_1 : decode cX2_ruleOf 1 = .ok (.istore_n 3, 1) := by decide +kernel
theorem dX2_ruleOf_2 : decode cX2_ruleOf 2 = .ok (.iload_n 3, 1) := by decide +kernel
theorem dX2_ruleOf_3 : decode cX2_ruleOf 3 = .ok (.bipush 60, 2) := by decide +kernel
theorem dX2_ruleOf_5 : decode cX2_ruleOf 5 = .ok (.if_icmp .ge 28, 3) := by decide +kernel
theorem dX2_ruleOf_8 : decode cX2_ruleOf 8 = .ok (.aload_n 0, 1) := by decide +kernel
theorem dX2_ruleOf_9 : decode cX2_ruleOf 9 = .ok (.getfield 20, 3) := by decide +kernel
theorem dX2_ruleOf_12 : decode cX2_ruleOf 12 = .ok (.iload_n 3, 1) := by decide +kernel
theorem dX2_ruleOf_13 : decode cX2_ruleOf 13 = .ok (.aaload, 1) := by decide +kernel
theorem dX2_ruleOf_14 : decode cX2_ruleOf 14 = .ok (.iload_n 1, 1) := by decide +kernel
theorem dX2_ruleOf_15 : decode cX2_ruleOf 15 = .ok (.iload_n 2, 1) := by decide +kernel
theorem dX2_ruleOf_16 : decode cX2_ruleOf 16 = .ok (.invokevirtual 53, 3) := by decide +kernel
theorem dX2_ruleOf_19 : decode cX2_ruleOf 19 = .ok (.ifCond .eq 8, 3) := by decide +kernel
theorem dX2_ruleOf_22 : decode cX2_ruleOf 22 = .ok (.bipush 26, 2) := by decide +kernel
theorem dX2_ruleOf_24 : decode cX2_ruleOf 24 = .ok (.iload_n 3, 1) := by decide +kernel
theorem dX2_ruleOf_25 : decode cX2_ruleOf 25 = .ok (.iadd, 1) := by decide +kernel
theorem dX2_ruleOf_26 : decode cX2_ruleOf 26 = .ok (.ireturn, 1) := by decide +kernel
theorem dX2_ruleOf_27 : decode cX2_ruleOf 27 = .ok (.iinc 3 1, 3) := by decide +kernel
theorem dX2_ruleOf_30 : decode cX2_ruleOf 30 = .ok (.goto (-28), 3) := by decide +kernel
theorem dX2_ruleOf_33 : decode cX2_ruleOf 33 = .ok (.iconst (-1), 1) := by decide +kernel
theorem dX2_ruleOf_34 : decode cX2_ruleOf 34 = .ok (.ireturn, 1) := by decide +kernel
theorem dX2_signFor_0 : decode cX2_signFor 0 = .ok (.aload_n 0, 1) := by decide +kernel
theorem dX2_signFor_1 : decode cX2_signFor 1 = .ok (.iload_n 1, 1) := by decide +kernel
theorem dX2_signFor_2 : decode cX2_signFor 2 = .ok (.iload_n 2, 1) := by decide +kernel
theorem dX2_signFor_3 : decode cX2_signFor 3 = .ok (.invokevirtual 57, 3) := by decide +kernel
theorem dX2_signFor_6 : decode cX2_signFor 6 = .ok (.istore_n 3, 1) := by decide +kernel
theorem dX2_signFor_7 : decode cX2_signFor 7 = .ok (.iload_n 3, 1) := by decide +kernel
theorem dX2_signFor_8 : decode cX2_signFor 8 = .ok (.iconst (-1), 1) := by decide +kernel
theorem dX2_signFor_9 : decode cX2_signFor 9 = .ok (.if_icmp .ne 10, 3) := by decide +kernel
theorem dX2_signFor_12 : decode cX2_signFor 12 = .ok (.aload_n 0, 1) := by decide +kernel
theorem dX2_signFor_13 : decode cX2_signFor 13 = .ok (.invokevirtual 61, 3) := by decide +kernel
theorem dX2_signFor_16 : decode cX2_signFor 16 = .ok (.goto 4, 3) := by decide +kernel
theorem dX2_signFor_19 : decode cX2_signFor 19 = .ok (.iload_n 3, 1) := by decide +kernel
theorem dX2_signFor_20 : decode cX2_signFor 20 = .ok (.ireturn, 1) := by decide +kernel
theorem dX2_joinPair_0 : decode cX2_joinPair 0 = .ok (.aload_n 0, 1) := by decide +kernel
theorem dX2_joinPair_1 : decode cX2_joinPair 1 = .ok (.iload_n 1, 1) := by decide +kernel
theorem dX2_joinPair_2 : decode cX2_joinPair 2 = .ok (.iload_n 2, 1) := by decide +kernel
theorem dX2_joinPair_3 : decode cX2_joinPair 3 = .ok (.invokevirtual 64, 3) := by decide +kernel
theorem dX2_joinPair_6 : decode cX2_joinPair 6 = .ok (.istore_n 3, 1) := by decide +kernel
theorem dX2_joinPair_7 : decode cX2_joinPair 7 = .ok (.iload_n 3, 1) := by decide +kernel
theorem dX2_joinPair_8 : decode cX2_joinPair 8 = .ok (.iconst (-1), 1) := by decide +kernel
theorem dX2_joinPair_9 : decode cX2_joinPair 9 = .ok (.if_icmp .ne 5, 3) := by decide +kernel
theorem dX2_joinPair_12 : decode cX2_joinPair 12 = .ok (.iconst (-1), 1) := by decide +kernel
theorem dX2_joinPair_13 : decode cX2_joinPair 13 = .ok (.ireturn, 1) := by decide +kernel
theorem dX2_joinPair_14 : decode cX2_joinPair 14 = .ok (.aload_n 0, 1) := by decide +kernel
theorem dX2_joinPair_15 : decode cX2_joinPair 15 = .ok (.iload_n 3, 1) := by decide +kernel
theorem dX2_joinPair_16 : decode cX2_joinPair 16 = .ok (.invokevirtual 27, 3) := by decide +kernel
theorem dX2_joinPair_19 : decode cX2_joinPair 19 = .ok (.astore 4, 2) := by decide +kernel
theorem dX2_joinPair_21 : decode cX2_joinPair 21 = .ok (.aload 4, 2) := by decide +kernel
theorem dX2_joinPair_23 : decode cX2_joinPair 23 = .ok (.invokevirtual 31, 3) := by decide +kernel
theorem dX2_joinPair_26 : decode cX2_joinPair 26 = .ok (.ifCond .ne 15, 3) := by decide +kernel
theorem dX2_joinPair_29 : decode cX2_joinPair 29 = .ok (.aload 4, 2) := by decide +kernel
theorem dX2_joinPair_31 : decode cX2_joinPair 31 = .ok (.iload_n 1, 1) := by decide +kernel
theorem dX2_joinPair_32 : decode cX2_joinPair 32 = .ok (.invokevirtual 67, 3) := by decide +kernel
theorem dX2_joinPair_35 : decode cX2_joinPair 35 = .ok (.aload 4, 2) := by decide +kernel
theorem dX2_joinPair_37 : decode cX2_joinPair 37 = .ok (.iload_n 2, 1) := by decide +kernel
theorem dX2_joinPair_38 : decode cX2_joinPair 38 = .ok (.invokevirtual 67, 3) := by decide +kernel
theorem dX2_joinPair_41 : decode cX2_joinPair 41 = .ok (.aload_n 0, 1) := by decide +kernel
theorem dX2_joinPair_42 : decode cX2_joinPair 42 = .ok (.getfield 14, 3) := by decide +kernel
theorem dX2_joinPair_45 : decode cX2_joinPair 45 = .ok (.iload_n 1, 1) := by decide +kernel
theorem dX2_joinPair_46 : decode cX2_joinPair 46 = .ok (.iload_n 2, 1) := by decide +kernel
theorem dX2_joinPair_47 : decode cX2_joinPair 47 = .ok (.iload_n 3, 1) := by decide +kernel
theorem dX2_joinPair_48 : decode cX2_joinPair 48 = .ok (.invokevirtual 70, 3) := by decide +kernel
theorem dX2_joinPair_51 : decode cX2_joinPair 51 = .ok (.iload_n 3, 1) := by decide +kernel
theorem dX2_joinPair_52 : decode cX2_joinPair 52 = .ok (.ireturn, 1) := by decide +kernel
theorem dX2_canGiveUp_0 : decode cX2_canGiveUp 0 = .ok (.aload_n 0, 1) := by decide +kernel
theorem dX2_canGiveUp_1 : decode cX2_canGiveUp 1 = .ok (.iload_n 1, 1) := by decide +kernel
theorem dX2_canGiveUp_2 : decode cX2_canGiveUp 2 = .ok (.invokevirtual 27, 3) := by decide +kernel
theorem dX2_canGiveUp_5 : decode cX2_canGiveUp 5 = .ok (.invokevirtual 31, 3) := by decide +kernel
theorem dX2_canGiveUp_8 : decode cX2_canGiveUp 8 = .ok (.iconst 1, 1) := by decide +kernel
theorem dX2_canGiveUp_9 : decode cX2_canGiveUp 9 = .ok (.isub, 1) := by decide +kernel
theorem dX2_canGiveUp_10 : decode cX2_canGiveUp 10 = .ok (.istore_n 2, 1) := by decide +kernel
theorem dX2_canGiveUp_11 : decode cX2_canGiveUp 11 = .ok (.iconst 0, 1) := by decide +kernel
theorem dX2_canGiveUp_12 : decode cX2_canGiveUp 12 = .ok (.istore_n 3, 1) := by decide +kernel
theorem dX2_canGiveUp_13 : decode cX2_canGiveUp 13 = .ok (.iload_n 3, 1) := by decide +kernel
theorem dX2_canGiveUp_14 : decode cX2_canGiveUp 14 = .ok (.bipush 60, 2) := by decide +kernel
theorem dX2_canGiveUp_16 : decode cX2_canGiveUp 16 = .ok (.if_icmp .ge 38, 3) := by decide +kernel
theorem dX2_canGiveUp_19 : decode cX2_canGiveUp 19 = .ok (.aload_n 0, 1) := by decide +kernel
theorem dX2_canGiveUp_20 : decode cX2_canGiveUp 20 = .ok (.getfield 20, 3) := by decide +kernel
theorem dX2_canGiveUp_23 : decode cX2_canGiveUp 23 = .ok (.iload_n 3, 1) := by decide +kernel
theorem dX2_canGiveUp_24 : decode cX2_canGiveUp 24 = .ok (.aaload, 1) := by decide +kernel
theorem dX2_canGiveUp_25 : decode cX2_canGiveUp 25 = .ok (.invokevirtual 31, 3) := by decide +kernel
theorem dX2_canGiveUp_28 : decode cX2_canGiveUp 28 = .ok (.aload_n 0, 1) := by decide +kernel
theorem dX2_canGiveUp_29 : decode cX2_canGiveUp 29 = .ok (.getfield 20, 3) := by decide +kernel
theorem dX2_canGiveUp_32 : decode cX2_canGiveUp 32 = .ok (.iload_n 3, 1) := by decide +kernel
theorem dX2_canGiveUp_33 : decode cX2_canGiveUp 33 = .ok (.aaload, 1) := by decide +kernel
theorem dX2_canGiveUp_34 : decode cX2_canGiveUp 34 = .ok (.iload_n 1, 1) := by decide +kernel
theorem dX2_canGiveUp_35 : decode cX2_canGiveUp 35 = .ok (.invokevirtual 49, 3) := by decide +kernel
theorem dX2_canGiveUp_38 : decode cX2_canGiveUp 38 = .ok (.iload_n 2, 1) := by decide +kernel
theorem dX2_canGiveUp_39 : decode cX2_canGiveUp 39 = .ok (.imul, 1) := by decide +kernel
theorem dX2_canGiveUp_40 : decode cX2_canGiveUp 40 = .ok (.iadd, 1) := by decide +kernel
theorem dX2_canGiveUp_41 : decode cX2_canGiveUp 41 = .ok (.bipush 12, 2) := by decide +kernel
theorem dX2_canGiveUp_43 : decode cX2_canGiveUp 43 = .ok (.if_icmp .le 5, 3) := by decide +kernel
theorem dX2_canGiveUp_46 : decode cX2_canGiveUp 46 = .ok (.iconst 0, 1) := by decide +kernel
theorem dX2_canGiveUp_47 : decode cX2_canGiveUp 47 = .ok (.ireturn, 1) := by decide +kernel
theorem dX2_canGiveUp_48 : decode cX2_canGiveUp 48 = .ok (.iinc 3 1, 3) := by decide +kernel
theorem dX2_canGiveUp_51 : decode cX2_canGiveUp 51 = .ok (.goto (-38), 3) := by decide +kernel
theorem dX2_canGiveUp_54 : decode cX2_canGiveUp 54 = .ok (.iconst 1, 1) := by decide +kernel
theorem dX2_canGiveUp_55 : decode cX2_canGiveUp 55 = .ok (.ireturn, 1) := by decide +kernel
theorem dX2_giveUp_0 : decode cX2_giveUp 0 = .ok (.aload_n 0, 1) := by decide +kernel
theorem dX2_giveUp_1 : decode cX2_giveUp 1 = .ok (.iload_n 1, 1) := by decide +kernel
theorem dX2_giveUp_2 : decode cX2_giveUp 2 = .ok (.invokevirtual 27, 3) := by decide +kernel
theorem dX2_giveUp_5 : decode cX2_giveUp 5 = .ok (.astore_n 2, 1) := by decide +kernel
theorem dX2_giveUp_6 : decode cX2_giveUp 6 = .ok (.aload_n 0, 1) := by decide +kernel
theorem dX2_giveUp_7 : decode cX2_giveUp 7 = .ok (.getfield 14, 3) := by decide +kernel
theorem dX2_giveUp_10 : decode cX2_giveUp 10 = .ok (.iload_n 1, 1) := by decide +kernel
theorem dX2_giveUp_11 : decode cX2_giveUp 11 = .ok (.aload_n 2, 1) := by decide +kernel
theorem dX2_giveUp_12 : decode cX2_giveUp 12 = .ok (.invokevirtual 74, 3) := by decide +kernel
theorem dX2_giveUp_15 : decode cX2_giveUp 15 = .ok (.iconst 0, 1) := by decide +kernel
theorem dX2_giveUp_16 : decode cX2_giveUp 16 = .ok (.istore_n 3, 1) := by decide +kernel
theorem dX2_giveUp_17 : decode cX2_giveUp 17 = .ok (.iload_n 3, 1) := by decide +kernel
theorem dX2_giveUp_18 : decode cX2_giveUp 18 = .ok (.bipush 60, 2) := by decide +kernel
theorem dX2_giveUp_20 : decode cX2_giveUp 20 = .ok (.if_icmp .ge 20, 3) := by decide +kernel
theorem dX2_giveUp_23 : decode cX2_giveUp 23 = .ok (.aload_n 0, 1) := by decide +kernel
theorem dX2_giveUp_24 : decode cX2_giveUp 24 = .ok (.getfield 20, 3) := by decide +kernel
theorem dX2_giveUp_27 : decode cX2_giveUp 27 = .ok (.iload_n 3, 1) := by decide +kernel
theorem dX2_giveUp_28 : decode cX2_giveUp 28 = .ok (.aaload, 1) := by decide +kernel
theorem dX2_giveUp_29 : decode cX2_giveUp 29 = .ok (.iload_n 1, 1) := by decide +kernel
theorem dX2_giveUp_30 : decode cX2_giveUp 30 = .ok (.aload_n 2, 1) := by decide +kernel
theorem dX2_giveUp_31 : decode cX2_giveUp 31 = .ok (.invokevirtual 74, 3) := by decide +kernel
theorem dX2_giveUp_34 : decode cX2_giveUp 34 = .ok (.iinc 3 1, 3) := by decide +kernel
theorem dX2_giveUp_37 : decode cX2_giveUp 37 = .ok (.goto (-20), 3) := by decide +kernel
theorem dX2_giveUp_40 : decode cX2_giveUp 40 = .ok (.aload_n 2, 1) := by decide +kernel
theorem dX2_giveUp_41 : decode cX2_giveUp 41 = .ok (.invokevirtual 42, 3) := by decide +kernel
theorem dX2_giveUp_44 : decode cX2_giveUp 44 = .ok (.return_, 1) := by decide +kernel
theorem dX2_leastIdle_0 : decode cX2_leastIdle 0 = .ok (.bipush 26, 2) := by decide +kernel
theorem dX2_leastIdle_2 : decode cX2_leastIdle 2 = .ok (.istore_n 1, 1) := by decide +kernel
theorem dX2_leastIdle_3 : decode cX2_leastIdle 3 = .ok (.iload_n 1, 1) := by decide +kernel
theorem dX2_leastIdle_4 : decode cX2_leastIdle 4 = .ok (.bipush 86, 2) := by decide +kernel
theorem dX2_leastIdle_6 : decode cX2_leastIdle 6 = .ok (.if_icmp .ge 42, 3) := by decide +kernel
theorem dX2_leastIdle_9 : decode cX2_leastIdle 9 = .ok (.aload_n 0, 1) := by decide +kernel
theorem dX2_leastIdle_10 : decode cX2_leastIdle 10 = .ok (.iload_n 1, 1) := by decide +kernel
theorem dX2_leastIdle_11 : decode cX2_leastIdle 11 = .ok (.invokevirtual 39, 3) := by decide +kernel
theorem dX2_leastIdle_14 : decode cX2_leastIdle 14 = .ok (.ifCond .eq 28, 3) := by decide +kernel
theorem dX2_leastIdle_17 : decode cX2_leastIdle 17 = .ok (.aload_n 0, 1) := by decide +kernel
theorem dX2_leastIdle_18 : decode cX2_leastIdle 18 = .ok (.iload_n 1, 1) := by decide +kernel
theorem dX2_leastIdle_19 : decode cX2_leastIdle 19 = .ok (.invokevirtual 78, 3) := by decide +kernel
theorem dX2_leastIdle_22 : decode cX2_leastIdle 22 = .ok (.istore_n 2, 1) := by decide +kernel
theorem dX2_leastIdle_23 : decode cX2_leastIdle 23 = .ok (.iload_n 2, 1) := by decide +kernel
theorem dX2_leastIdle_24 : decode cX2_leastIdle 24 = .ok (.ifCond .eq 16, 3) := by decide +kernel
theorem dX2_leastIdle_27 : decode cX2_leastIdle 27 = .ok (.iload_n 2, 1) := by decide +kernel
theorem dX2_leastIdle_28 : decode cX2_leastIdle 28 = .ok (.iconst 1, 1) := by decide +kernel
theorem dX2_leastIdle_29 : decode cX2_leastIdle 29 = .ok (.if_icmp .ne 13, 3) := by decide +kernel
theorem dX2_leastIdle_32 : decode cX2_leastIdle 32 = .ok (.aload_n 0, 1) := by decide +kernel
theorem dX2_leastIdle_33 : decode cX2_leastIdle 33 = .ok (.iload_n 1, 1) := by decide +kernel
theorem dX2_leastIdle_34 : decode cX2_leastIdle 34 = .ok (.invokevirtual 81, 3) := by decide +kernel
theorem dX2_leastIdle_37 : decode cX2_leastIdle 37 = .ok (.ifCond .eq 5, 3) := by decide +kernel
theorem dX2_leastIdle_40 : decode cX2_leastIdle 40 = .ok (.iload_n 1, 1) := by decide +kernel
theorem dX2_leastIdle_41 : decode cX2_leastIdle 41 = .ok (.ireturn, 1) := by decide +kernel
theorem dX2_leastIdle_42 : decode cX2_leastIdle 42 = .ok (.iinc 1 1, 3) := by decide +kernel
theorem dX2_leastIdle_45 : decode cX2_leastIdle 45 = .ok (.goto (-42), 3) := by decide +kernel
theorem dX2_leastIdle_48 : decode cX2_leastIdle 48 = .ok (.iconst (-1), 1) := by decide +kernel
theorem dX2_leastIdle_49 : decode cX2_leastIdle 49 = .ok (.ireturn, 1) := by decide +kernel
theorem dX2_open_0 : decode cX2_open 0 = .ok (.iconst 0, 1) := by decide +kernel
theorem dX2_open_1 : decode cX2_open 1 = .ok (.istore_n 3, 1) := by decide +kernel
theorem dX2_open_2 : decode cX2_open 2 = .ok (.iconst 0, 1) := by decide +kernel
theorem dX2_open_3 : decode cX2_open 3 = .ok (.istore 4, 2) := by decide +kernel
theorem dX2_open_5 : decode cX2_open 5 = .ok (.iconst 0, 1) := by decide +kernel
theorem dX2_open_6 : decode cX2_open 6 = .ok (.istore 5, 2) := by decide +kernel
theorem dX2_open_8 : decode cX2_open 8 = .ok (.iload 5, 2) := by decide +kernel
theorem dX2_open_10 : decode cX2_open 10 = .ok (.bipush 60, 2) := by decide +kernel
theorem dX2_open_12 : decode cX2_open 12 = .ok (.if_icmp .gt 101, 3) := by decide +kernel
theorem dX2_open_15 : decode cX2_open 15 = .ok (.iload_n 3, 1) := by decide +kernel
theorem dX2_open_16 : decode cX2_open 16 = .ok (.aload_n 0, 1) := by decide +kernel
theorem dX2_open_17 : decode cX2_open 17 = .ok (.getfield 14, 3) := by decide +kernel
theorem dX2_open_20 : decode cX2_open 20 = .ok (.invokevirtual 31, 3) := by decide +kernel
theorem dX2_open_23 : decode cX2_open 23 = .ok (.if_icmp .ge 45, 3) := by decide +kernel
theorem dX2_open_26 : decode cX2_open 26 = .ok (.iload 4, 2) := by decide +kernel
theorem dX2_open_28 : decode cX2_open 28 = .ok (.aload_n 2, 1) := by decide +kernel
theorem dX2_open_29 : decode cX2_open 29 = .ok (.aload_n 0, 1) := by decide +kernel
theorem dX2_open_30 : decode cX2_open 30 = .ok (.getfield 14, 3) := by decide +kernel
theorem dX2_open_33 : decode cX2_open 33 = .ok (.iload_n 3, 1) := by decide +kernel
theorem dX2_open_34 : decode cX2_open 34 = .ok (.invokevirtual 84, 3) := by decide +kernel
theorem dX2_open_37 : decode cX2_open 37 = .ok (.invokevirtual 87, 3) := by decide +kernel
theorem dX2_open_40 : decode cX2_open 40 = .ok (.iadd, 1) := by decide +kernel
theorem dX2_open_41 : decode cX2_open 41 = .ok (.iload_n 1, 1) := by decide +kernel
theorem dX2_open_42 : decode cX2_open 42 = .ok (.if_icmp .gt 26, 3) := by decide +kernel
theorem dX2_open_45 : decode cX2_open 45 = .ok (.iload 4, 2) := by decide +kernel
theorem dX2_open_47 : decode cX2_open 47 = .ok (.aload_n 2, 1) := by decide +kernel
theorem dX2_open_48 : decode cX2_open 48 = .ok (.aload_n 0, 1) := by decide +kernel
theorem dX2_open_49 : decode cX2_open 49 = .ok (.getfield 14, 3) := by decide +kernel
theorem dX2_open_52 : decode cX2_open 52 = .ok (.iload_n 3, 1) := by decide +kernel
theorem dX2_open_53 : decode cX2_open 53 = .ok (.invokevirtual 84, 3) := by decide +kernel
theorem dX2_open_56 : decode cX2_open 56 = .ok (.invokevirtual 87, 3) := by decide +kernel
theorem dX2_open_59 : decode cX2_open 59 = .ok (.iadd, 1) := by decide +kernel
theorem dX2_open_60 : decode cX2_open 60 = .ok (.istore 4, 2) := by decide +kernel
theorem dX2_open_62 : decode cX2_open 62 = .ok (.iinc 3 1, 3) := by decide +kernel
theorem dX2_open_65 : decode cX2_open 65 = .ok (.goto (-50), 3) := by decide +kernel
theorem dX2_open_68 : decode cX2_open 68 = .ok (.iload 4, 2) := by decide +kernel
theorem dX2_open_70 : decode cX2_open 70 = .ok (.iload_n 1, 1) := by decide +kernel
theorem dX2_open_71 : decode cX2_open 71 = .ok (.if_icmp .eq 14, 3) := by decide +kernel
theorem dX2_open_74 : decode cX2_open 74 = .ok (.iload_n 3, 1) := by decide +kernel
theorem dX2_open_75 : decode cX2_open 75 = .ok (.aload_n 0, 1) := by decide +kernel
theorem dX2_open_76 : decode cX2_open 76 = .ok (.getfield 14, 3) := by decide +kernel
theorem dX2_open_79 : decode cX2_open 79 = .ok (.invokevirtual 31, 3) := by decide +kernel
theorem dX2_open_82 : decode cX2_open 82 = .ok (.if_icmp .lt 5, 3) := by decide +kernel
theorem dX2_open_85 : decode cX2_open 85 = .ok (.iload_n 3, 1) := by decide +kernel
theorem dX2_open_86 : decode cX2_open 86 = .ok (.ireturn, 1) := by decide +kernel
theorem dX2_open_87 : decode cX2_open 87 = .ok (.aload_n 0, 1) := by decide +kernel
theorem dX2_open_88 : decode cX2_open 88 = .ok (.getfield 14, 3) := by decide +kernel
theorem dX2_open_91 : decode cX2_open 91 = .ok (.iload_n 3, 1) := by decide +kernel
theorem dX2_open_92 : decode cX2_open 92 = .ok (.aload_n 0, 1) := by decide +kernel
theorem dX2_open_93 : decode cX2_open 93 = .ok (.aload_n 0, 1) := by decide +kernel
theorem dX2_open_94 : decode cX2_open 94 = .ok (.getfield 14, 3) := by decide +kernel
theorem dX2_open_97 : decode cX2_open 97 = .ok (.iload_n 3, 1) := by decide +kernel
theorem dX2_open_98 : decode cX2_open 98 = .ok (.invokevirtual 84, 3) := by decide +kernel
theorem dX2_open_101 : decode cX2_open 101 = .ok (.invokevirtual 27, 3) := by decide +kernel
theorem dX2_open_104 : decode cX2_open 104 = .ok (.invokevirtual 92, 3) := by decide +kernel
theorem dX2_open_107 : decode cX2_open 107 = .ok (.iinc 5 1, 3) := by decide +kernel
theorem dX2_open_110 : decode cX2_open 110 = .ok (.goto (-102), 3) := by decide +kernel
theorem dX2_open_113 : decode cX2_open 113 = .ok (.iload_n 3, 1) := by decide +kernel
theorem dX2_open_114 : decode cX2_open 114 = .ok (.ireturn, 1) := by decide +kernel
theorem dX3_init_0 : decode cX3_init 0 = .ok (.aload_n 0, 1) := by decide +kernel
theorem dX3_init_1 : decode cX3_init 1 = .ok (.invokespecial 3, 3) := by decide +kernel
theorem dX3_init_4 : decode cX3_init 4 = .ok (.aload_n 0, 1) := by decide +kernel
theorem dX3_init_5 : decode cX3_init 5 = .ok (.sipush 7396, 3) := by decide +kernel
theorem dX3_init_8 : decode cX3_init 8 = .ok (.newarray .int, 2) := by decide +kernel
theorem dX3_init_10 : decode cX3_init 10 = .ok (.putfield 9, 3) := by decide +kernel
theorem dX3_init_13 : decode cX3_init 13 = .ok (.aload_n 0, 1) := by decide +kernel
theorem dX3_init_14 : decode cX3_init 14 = .ok (.new 15, 3) := by decide +kernel
theorem dX3_init_17 : decode cX3_init 17 = .ok (.dup, 1) := by decide +kernel
theorem dX3_init_18 : decode cX3_init 18 = .ok (.sipush 240, 3) := by decide +kernel
theorem dX3_init_21 : decode cX3_init 21 = .ok (.invokespecial 17, 3) := by decide +kernel
theorem dX3_init_24 : decode cX3_init 24 = .ok (.putfield 20, 3) := by decide +kernel
theorem dX3_init_27 : decode cX3_init 27 = .ok (.return_, 1) := by decide +kernel
theorem dX3_pairOf_0 : decode cX3_pairOf 0 = .ok (.iload_n 0, 1) := by decide +kernel
theorem dX3_pairOf_1 : decode cX3_pairOf 1 = .ok (.ifCond .lt 23, 3) := by decide +kernel
theorem dX3_pairOf_4 : decode cX3_pairOf 4 = .ok (.iload_n 0, 1) := by decide +kernel
theorem dX3_pairOf_5 : decode cX3_pairOf 5 = .ok (.bipush 86, 2) := by decide +kernel
theorem dX3_pairOf_7 : decode cX3_pairOf 7 = .ok (.if_icmp .ge 17, 3) := by decide +kernel
theorem dX3_pairOf_10 : decode cX3_pairOf 10 = .ok (.iload_n 1, 1) := by decide +kernel
theorem dX3_pairOf_11 : decode cX3_pairOf 11 = .ok (.ifCond .lt 13, 3) := by decide +kernel
theorem dX3_pairOf_14 : decode cX3_pairOf 14 = .ok (.iload_n 1, 1) := by decide +kernel
theorem dX3_pairOf_15 : decode cX3_pairOf 15 = .ok (.bipush 86, 2) := by decide +kernel
theorem dX3_pairOf_17 : decode cX3_pairOf 17 = .ok (.if_icmp .ge 7, 3) := by decide +kernel
theorem dX3_pairOf_20 : decode cX3_pairOf 20 = .ok (.iconst 1, 1) := by decide +kernel
theorem dX3_pairOf_21 : decode cX3_pairOf 21 = .ok (.goto 4, 3) := by decide +kernel
theorem dX3_pairOf_24 : decode cX3_pairOf 24 = .ok (.iconst 0, 1) := by decide +kernel
theorem dX3_pairOf_25 : decode cX3_pairOf 25 = .ok (.istore_n 2, 1) := by decide +kernel
theorem dX3_pairOf_26 : decode cX3_pairOf 26 = .ok (.iload_n 2, 1) := by decide +kernel
theorem dX3_pairOf_27 : decode cX3_pairOf 27 = .ok (.ifCond .eq 12, 3) := by decide +kernel
theorem dX3_pairOf_30 : decode cX3_pairOf 30 = .ok (.iload_n 0, 1) := by decide +kernel
theorem dX3_pairOf_31 : decode cX3_pairOf 31 = .ok (.bipush 86, 2) := by decide +kernel
theorem dX3_pairOf_33 : decode cX3_pairOf 33 = .ok (.imul, 1) := by decide +kernel
theorem dX3_pairOf_34 : decode cX3_pairOf 34 = .ok (.iload_n 1, 1) := by decide +kernel
theorem dX3_pairOf_35 : decode cX3_pairOf 35 = .ok (.iadd, 1) := by decide +kernel
theorem dX3_pairOf_36 : decode cX3_pairOf 36 = .ok (.goto 4, 3) := by decide +kernel
theorem dX3_pairOf_39 : decode cX3_pairOf 39 = .ok (.iconst (-1), 1) := by decide +kernel
theorem dX3_pairOf_40 : decode cX3_pairOf 40 = .ok (.ireturn, 1) := by decide +kernel
theorem dX3_leftOf_0 : decode cX3_leftOf 0 = .ok (.iload_n 0, 1) := by decide +kernel
theorem dX3_leftOf_1 : decode cX3_leftOf 1 = .ok (.bipush 86, 2) := by decide +kernel
theorem dX3_leftOf_3 : decode cX3_leftOf 3 = .ok (.idiv, 1) := by decide +kernel
theorem dX3_leftOf_4 : decode cX3_leftOf 4 = .ok (.ireturn, 1) := by decide +kernel
theorem dX3_rightOf_0 : decode cX3_rightOf 0 = .ok (.iload_n 0, 1) := by decide +kernel
theorem dX3_rightOf_1 : decode cX3_rightOf 1 = .ok (.bipush 86, 2) := by decide +kernel
theorem dX3_rightOf_3 : decode cX3_rightOf 3 = .ok (.irem, 1) := by decide +kernel
theorem dX3_rightOf_4 : decode cX3_rightOf 4 = .ok (.ireturn, 1) := by decide +kernel
theorem dX3_tally_0 : decode cX3_tally 0 = .ok (.aload_n 0, 1) := by decide +kernel
theorem dX3_tally_1 : decode cX3_tally 1 = .ok (.invokevirtual 24, 3) := by decide +kernel
theorem dX3_tally_4 : decode cX3_tally 4 = .ok (.iconst (-1), 1) := by decide +kernel
theorem dX3_tally_5 : decode cX3_tally 5 = .ok (.istore_n 2, 1) := by decide +kernel
theorem dX3_tally_6 : decode cX3_tally 6 = .ok (.iconst 0, 1) := by decide +kernel
theorem dX3_tally_7 : decode cX3_tally 7 = .ok (.istore_n 3, 1) := by decide +kernel
theorem dX3_tally_8 : decode cX3_tally 8 = .ok (.iload_n 3, 1) := by decide +kernel
theorem dX3_tally_9 : decode cX3_tally 9 = .ok (.iconst 1, 1) := by decide +kernel
theorem dX3_tally_10 : decode cX3_tally 10 = .ok (.iadd, 1) := by decide +kernel
theorem dX3_tally_11 : decode cX3_tally 11 = .ok (.aload_n 1, 1) := by decide +kernel
theorem dX3_tally_12 : decode cX3_tally 12 = .ok (.invokevirtual 27, 3) := by decide +kernel
theorem dX3_tally_15 : decode cX3_tally 15 = .ok (.if_icmp .ge 66, 3) := by decide +kernel
theorem dX3_tally_18 : decode cX3_tally 18 = .ok (.aload_n 1, 1) := by decide +kernel
theorem dX3_tally_19 : decode cX3_tally 19 = .ok (.iload_n 3, 1) := by decide +kernel
theorem dX3_tally_20 : decode cX3_tally 20 = .ok (.invokevirtual 31, 3) := by decide +kernel
theorem dX3_tally_23 : decode cX3_tally 23 = .ok (.istore 4, 2) := by decide +kernel
theorem dX3_tally_25 : decode cX3_tally 25 = .ok (.aload_n 1, 1) := by decide +kernel
theorem dX3_tally_26 : decode cX3_tally 26 = .ok (.iload_n 3, 1) := by decide +kernel
theorem dX3_tally_27 : decode cX3_tally 27 = .ok (.iconst 1, 1) := by decide +kernel
theorem dX3_tally_28 : decode cX3_tally 28 = .ok (.iadd, 1) := by decide +kernel
theorem dX3_tally_29 : decode cX3_tally 29 = .ok (.invokevirtual 31, 3) := by decide +kernel
theorem dX3_tally_32 : decode cX3_tally 32 = .ok (.istore 5, 2) := by decide +kernel
theorem dX3_tally_34 : decode cX3_tally 34 = .ok (.iload 4, 2) := by decide +kernel
theorem dX3_tally_36 : decode cX3_tally 36 = .ok (.iload 5, 2) := by decide +kernel
theorem dX3_tally_38 : decode cX3_tally 38 = .ok (.if_icmp .eq 17, 3) := by decide +kernel
theorem dX3_tally_41 : decode cX3_tally 41 = .ok (.aload_n 0, 1) := by decide +kernel
theorem dX3_tally_42 : decode cX3_tally 42 = .ok (.iload 4, 2) := by decide +kernel
theorem dX3_tally_44 : decode cX3_tally 44 = .ok (.iload 5, 2) := by decide +kernel
theorem dX3_tally_46 : decode cX3_tally 46 = .ok (.invokestatic 35, 3) := by decide +kernel
theorem dX3_tally_49 : decode cX3_tally 49 = .ok (.invokevirtual 39, 3) := by decide +kernel
theorem dX3_tally_52 : decode cX3_tally 52 = .ok (.goto 23, 3) := by decide +kernel
theorem dX3_tally_55 : decode cX3_tally 55 = .ok (.iload_n 2, 1) := by decide +kernel
theorem dX3_tally_56 : decode cX3_tally 56 = .ok (.iload_n 3, 1) := by decide +kernel
theorem dX3_tally_57 : decode cX3_tally 57 = .ok (.if_icmp .eq 18, 3) := by decide +kernel
theorem dX3_tally_60 : decode cX3_tally 60 = .ok (.aload_n 0, 1) := by decide +kernel
theorem dX3_tally_61 : decode cX3_tally 61 = .ok (.iload 4, 2) := by decide +kernel
theorem dX3_tally_63 : decode cX3_tally 63 = .ok (.iload 5, 2) := by decide +kernel
theorem dX3_tally_65 : decode cX3_tally 65 = .ok (.invokestatic 35, 3) := by decide +kernel
theorem dX3_tally_68 : decode cX3_tally 68 = .ok (.invokevirtual 39, 3) := by decide +kernel
theorem dX3_tally_71 : decode cX3_tally 71 = .ok (.iload_n 3, 1) := by decide +kernel
theorem dX3_tally_72 : decode cX3_tally 72 = .ok (.iconst 1, 1) := by decide +kernel
theorem dX3_tally_73 : decode cX3_tally 73 = .ok (.iadd, 1) := by decide +kernel
theorem dX3_tally_74 : decode cX3_tally 74 = .ok (.istore_n 2, 1) := by decide +kernel
theorem dX3_tally_75 : decode cX3_tally 75 = .ok (.iinc 3 1, 3) := by decide +kernel
theorem dX3_tally_78 : decode cX3_tally 78 = .ok (.goto (-70), 3) := by decide +kernel
theorem dX3_tally_81 : decode cX3_tally 81 = .ok (.return_, 1) := by decide +kernel
theorem dX3_kinds_0 : decode cX3_kinds 0 = .ok (.aload_n 0, 1) := by decide +kernel
theorem dX3_kinds_1 : decode cX3_kinds 1 = .ok (.getfield 20, 3) := by decide +kernel
theorem dX3_kinds_4 : decode cX3_kinds 4 = .ok (.invokevirtual 27, 3) := by decide +kernel
theorem dX3_kinds_7 : decode cX3_kinds 7 = .ok (.ireturn, 1) := by decide +kernel
theorem dX3_pairAt_0 : decode cX3_pairAt 0 = .ok (.aload_n 0, 1) := by decide +kernel
theorem dX3_pairAt_1 : decode cX3_pairAt 1 = .ok (.getfield 20, 3) := by decide +kernel
theorem dX3_pairAt_4 : decode cX3_pairAt 4 = .ok (.iload_n 1, 1) := by decide +kernel
theorem dX3_pairAt_5 : decode cX3_pairAt 5 = .ok (.invokevirtual 31, 3) := by decide +kernel
theorem dX3_pairAt_8 : decode cX3_pairAt 8 = .ok (.ireturn, 1) := by decide +kernel
theorem dX3_countOf_0 : decode cX3_countOf 0 = .ok (.aload_n 0, 1) := by decide +kernel
theorem dX3_countOf_1 : decode cX3_countOf 1 = .ok (.iload_n 1, 1) := by decide +kernel
theorem dX3_countOf_2 : decode cX3_countOf 2 = .ok (.iload_n 2, 1) := by decide +kernel
theorem dX3_countOf_3 : decode cX3_countOf 3 = .ok (.invokestatic 35, 3) := by decide +kernel
theorem dX3_countOf_6 : decode cX3_countOf 6 = .ok (.invokevirtual 42, 3) := by decide +kernel
theorem dX3_countOf_9 : decode cX3_countOf 9 = .ok (.ireturn, 1) := by decide +kernel
theorem dX3_countOfPair_0 : decode cX3_countOfPair 0 = .ok (.iload_n 1, 1) := by decide +kernel
theorem dX3_countOfPair_1 : decode cX3_countOfPair 1 = .ok (.ifCond .lt 21, 3) := by decide +kernel
theorem dX3_countOfPair_4 : decode cX3_countOfPair 4 = .ok (.iload_n 1, 1) := by decide +kernel
theorem dX3_countOfPair_5 : decode cX3_countOfPair 5 = .ok (.aload_n 0, 1) := by decide +kernel
theorem dX3_countOfPair_6 : decode cX3_countOfPair 6 = .ok (.getfield 9, 3) := by decide +kernel
theorem dX3_countOfPair_9 : decode cX3_countOfPair 9 = .ok (.arraylength, 1) := by decide +kernel
theorem dX3_countOfPair_10 : decode cX3_countOfPair 10 = .ok (.if_icmp .ge 12, 3) := by decide +kernel
theorem dX3_countOfPair_13 : decode cX3_countOfPair 13 = .ok (.aload_n 0, 1) := by decide +kernel
theorem dX3_countOfPair_14 : decode cX3_countOfPair 14 = .ok (.getfield 9, 3) := by decide +kernel
theorem dX3_countOfPair_17 : decode cX3_countOfPair 17 = .ok (.iload_n 1, 1) := by decide +kernel
theorem dX3_countOfPair_18 : decode cX3_countOfPair 18 = .ok (.iaload, 1) := by decide +kernel
theorem dX3_countOfPair_19 : decode cX3_countOfPair 19 = .ok (.goto 4, 3) := by decide +kernel
theorem dX3_countOfPair_22 : decode cX3_countOfPair 22 = .ok (.iconst 0, 1) := by decide +kernel
theorem dX3_countOfPair_23 : decode cX3_countOfPair 23 = .ok (.ireturn, 1) := by decide +kernel
theorem dX3_ranked_0 : decode cX3_ranked 0 = .ok (.iload_n 1, 1) := by decide +kernel
theorem dX3_ranked_1 : decode cX3_ranked 1 = .ok (.ifCond .lt 14, 3) := by decide +kernel
theorem dX3_ranked_4 : decode cX3_ranked 4 = .ok (.iload_n 1, 1) := by decide +kernel
theorem dX3_ranked_5 : decode cX3_ranked 5 = .ok (.aload_n 0, 1) := by decide +kernel
theorem dX3_ranked_6 : decode cX3_ranked 6 = .ok (.getfield 20, 3) := by decide +kernel
theorem dX3_ranked_9 : decode cX3_ranked 9 = .ok (.invokevirtual 27, 3) := by decide +kernel
theorem dX3_ranked_12 : decode cX3_ranked 12 = .ok (.if_icmp .lt 5, 3) := by decide +kernel
theorem dX3_ranked_15 : decode cX3_ranked 15 = .ok (.iconst (-1), 1) := by decide +kernel
theorem dX3_ranked_16 : decode cX3_ranked 16 = .ok (.ireturn, 1) := by decide +kernel
theorem dX3_ranked_17 : decode cX3_ranked 17 = .ok (.iconst (-1), 1) := by decide +kernel
theorem dX3_ranked_18 : decode cX3_ranked 18 = .ok (.istore_n 2, 1) := by decide +kernel
theorem dX3_ranked_19 : decode cX3_ranked 19 = .ok (.iconst 0, 1) := by decide +kernel
theorem dX3_ranked_20 : decode cX3_ranked 20 = .ok (.istore_n 3, 1) := by decide +kernel
theorem dX3_ranked_21 : decode cX3_ranked 21 = .ok (.iload_n 3, 1) := by decide +kernel
theorem dX3_ranked_22 : decode cX3_ranked 22 = .ok (.iload_n 1, 1) := by decide +kernel
theorem dX3_ranked_23 : decode cX3_ranked 23 = .ok (.if_icmp .gt 22, 3) := by decide +kernel
theorem dX3_ranked_26 : decode cX3_ranked 26 = .ok (.aload_n 0, 1) := by decide +kernel
theorem dX3_ranked_27 : decode cX3_ranked 27 = .ok (.iload_n 2, 1) := by decide +kernel
theorem dX3_ranked_28 : decode cX3_ranked 28 = .ok (.invokevirtual 45, 3) := by decide +kernel
theorem dX3_ranked_31 : decode cX3_ranked 31 = .ok (.istore_n 2, 1) := by decide +kernel
theorem dX3_ranked_32 : decode cX3_ranked 32 = .ok (.iload_n 2, 1) := by decide +kernel
theorem dX3_ranked_33 : decode cX3_ranked 33 = .ok (.iconst (-1), 1) := by decide +kernel
theorem dX3_ranked_34 : decode cX3_ranked 34 = .ok (.if_icmp .ne 5, 3) := by decide +kernel
theorem dX3_ranked_37 : decode cX3_ranked 37 = .ok (.iconst (-1), 1) := by decide +kernel
theorem dX3_ranked_38 : decode cX3_ranked 38 = .ok (.ireturn, 1) := by decide +kernel
theorem dX3_ranked_39 : decode cX3_ranked 39 = .ok (.iinc 3 1, 3) := by decide +kernel
theorem dX3_ranked_42 : decode cX3_ranked 42 = .ok (.goto (-21), 3) := by decide +kernel
theorem dX3_ranked_45 : decode cX3_ranked 45 = .ok (.iload_n 2, 1) := by decide +kernel
theorem dX3_ranked_46 : decode cX3_ranked 46 = .ok (.ireturn, 1) := by decide +kernel
theorem dX3_nextBehind_0 : decode cX3_nextBehind 0 = .ok (.iconst (-1), 1) := by decide +kernel
theorem dX3_nextBehind_1 : decode cX3_nextBehind 1 = .ok (.istore_n 2, 1) := by decide +kernel
theorem dX3_nextBehind_2 : decode cX3_nextBehind 2 = .ok (.iconst 0, 1) := by decide +kernel
theorem dX3_nextBehind_3 : decode cX3_nextBehind 3 = .ok (.istore_n 3, 1) := by decide +kernel
theorem dX3_nextBehind_4 : decode cX3_nextBehind 4 = .ok (.iload_n 3, 1) := by decide +kernel
theorem dX3_nextBehind_5 : decode cX3_nextBehind 5 = .ok (.aload_n 0, 1) := by decide +kernel
theorem dX3_nextBehind_6 : decode cX3_nextBehind 6 = .ok (.getfield 20, 3) := by decide +kernel
theorem dX3_nextBehind_9 : decode cX3_nextBehind 9 = .ok (.invokevirtual 27, 3) := by decide +kernel
theorem dX3_nextBehind_12 : decode cX3_nextBehind 12 = .ok (.if_icmp .ge 62, 3) := by decide +kernel
theorem dX3_nextBehind_15 : decode cX3_nextBehind 15 = .ok (.aload_n 0, 1) := by decide +kernel
theorem dX3_nextBehind_16 : decode cX3_nextBehind 16 = .ok (.getfield 20, 3) := by decide +kernel
theorem dX3_nextBehind_19 : decode cX3_nextBehind 19 = .ok (.iload_n 3, 1) := by decide +kernel
theorem dX3_nextBehind_20 : decode cX3_nextBehind 20 = .ok (.invokevirtual 31, 3) := by decide +kernel
theorem dX3_nextBehind_23 : decode cX3_nextBehind 23 = .ok (.istore 4, 2) := by decide +kernel
theorem dX3_nextBehind_25 : decode cX3_nextBehind 25 = .ok (.aload_n 0, 1) := by decide +kernel
theorem dX3_nextBehind_26 : decode cX3_nextBehind 26 = .ok (.iload 4, 2) := by decide +kernel
theorem dX3_nextBehind_28 : decode cX3_nextBehind 28 = .ok (.invokevirtual 42, 3) := by decide +kernel
theorem dX3_nextBehind_31 : decode cX3_nextBehind 31 = .ok (.iconst 2, 1) := by decide +kernel
theorem dX3_nextBehind_32 : decode cX3_nextBehind 32 = .ok (.if_icmp .lt 36, 3) := by decide +kernel
theorem dX3_nextBehind_35 : decode cX3_nextBehind 35 = .ok (.iload_n 1, 1) := by decide +kernel
theorem dX3_nextBehind_36 : decode cX3_nextBehind 36 = .ok (.iconst (-1), 1) := by decide +kernel
theorem dX3_nextBehind_37 : decode cX3_nextBehind 37 = .ok (.if_icmp .eq 13, 3) := by decide +kernel
theorem dX3_nextBehind_40 : decode cX3_nextBehind 40 = .ok (.aload_n 0, 1) := by decide +kernel
theorem dX3_nextBehind_41 : decode cX3_nextBehind 41 = .ok (.iload_n 1, 1) := by decide +kernel
theorem dX3_nextBehind_42 : decode cX3_nextBehind 42 = .ok (.iload 4, 2) := by decide +kernel
theorem dX3_nextBehind_44 : decode cX3_nextBehind 44 = .ok (.invokevirtual 48, 3) := by decide +kernel
theorem dX3_nextBehind_47 : decode cX3_nextBehind 47 = .ok (.ifCond .eq 21, 3) := by decide +kernel
theorem dX3_nextBehind_50 : decode cX3_nextBehind 50 = .ok (.iload_n 2, 1) := by decide +kernel
theorem dX3_nextBehind_51 : decode cX3_nextBehind 51 = .ok (.iconst (-1), 1) := by decide +kernel
theorem dX3_nextBehind_52 : decode cX3_nextBehind 52 = .ok (.if_icmp .eq 13, 3) := by decide +kernel
theorem dX3_nextBehind_55 : decode cX3_nextBehind 55 = .ok (.aload_n 0, 1) := by decide +kernel
theorem dX3_nextBehind_56 : decode cX3_nextBehind 56 = .ok (.iload 4, 2) := by decide +kernel
theorem dX3_nextBehind_58 : decode cX3_nextBehind 58 = .ok (.iload_n 2, 1) := by decide +kernel
theorem dX3_nextBehind_59 : decode cX3_nextBehind 59 = .ok (.invokevirtual 48, 3) := by decide +kernel
theorem dX3_nextBehind_62 : decode cX3_nextBehind 62 = .ok (.ifCond .eq 6, 3) := by decide +kernel
theorem dX3_nextBehind_65 : decode cX3_nextBehind 65 = .ok (.iload 4, 2) := by decide +kernel
theorem dX3_nextBehind_67 : decode cX3_nextBehind 67 = .ok (.istore_n 2, 1) := by decide +kernel
theorem dX3_nextBehind_68 : decode cX3_nextBehind 68 = .ok (.iinc 3 1, 3) := by decide +kernel
theorem dX3_nextBehind_71 : decode cX3_nextBehind 71 = .ok (.goto (-67), 3) := by decide +kernel
theorem dX3_nextBehind_74 : decode cX3_nextBehind 74 = .ok (.iload_n 2, 1) := by decide +kernel
theorem dX3_nextBehind_75 : decode cX3_nextBehind 75 = .ok (.ireturn, 1) := by decide +kernel
theorem dX3_isAhead_0 : decode cX3_isAhead 0 = .ok (.aload_n 0, 1) := by decide +kernel
theorem dX3_isAhead_1 : decode cX3_isAhead 1 = .ok (.iload_n 1, 1) := by decide +kernel
theorem dX3_isAhead_2 : decode cX3_isAhead 2 = .ok (.invokevirtual 42, 3) := by decide +kernel
theorem dX3_isAhead_5 : decode cX3_isAhead 5 = .ok (.aload_n 0, 1) := by decide +kernel
theorem dX3_isAhead_6 : decode cX3_isAhead 6 = .ok (.iload_n 2, 1) := by decide +kernel
theorem dX3_isAhead_7 : decode cX3_isAhead 7 = .ok (.invokevirtual 42, 3) := by decide +kernel
theorem dX3_isAhead_10 : decode cX3_isAhead 10 = .ok (.isub, 1) := by decide +kernel
theorem dX3_isAhead_11 : decode cX3_isAhead 11 = .ok (.istore_n 3, 1) := by decide +kernel
theorem dX3_isAhead_12 : decode cX3_isAhead 12 = .ok (.iload_n 3, 1) := by decide +kernel
theorem dX3_isAhead_13 : decode cX3_isAhead 13 = .ok (.ifCond .gt 12, 3) := by decide +kernel
theorem dX3_isAhead_16 : decode cX3_isAhead 16 = .ok (.iload_n 3, 1) := by decide +kernel
theorem dX3_isAhead_17 : decode cX3_isAhead 17 = .ok (.ifCond .ne 12, 3) := by decide +kernel
theorem dX3_isAhead_20 : decode cX3_isAhead 20 = .ok (.iload_n 1, 1) := by decide +kernel
theorem dX3_isAhead_21 : decode cX3_isAhead 21 = .ok (.iload_n 2, 1) := by decide +kernel
theorem dX3_isAhead_22 : decode cX3_isAhead 22 = .ok (.if_icmp .ge 7, 3) := by decide +kernel
theorem dX3_isAhead_25 : decode cX3_isAhead 25 = .ok (.iconst 1, 1) := by decide +kernel
theorem dX3_isAhead_26 : decode cX3_isAhead 26 = .ok (.goto 4, 3) := by decide +kernel
theorem dX3_isAhead_29 : decode cX3_isAhead 29 = .ok (.iconst 0, 1) := by decide +kernel
theorem dX3_isAhead_30 : decode cX3_isAhead 30 = .ok (.ireturn, 1) := by decide +kernel
theorem dX3_addOne_0 : decode cX3_addOne 0 = .ok (.iload_n 1, 1) := by decide +kernel
theorem dX3_addOne_1 : decode cX3_addOne 1 = .ok (.ifCond .lt 12, 3) := by decide +kernel
theorem dX3_addOne_4 : decode cX3_addOne 4 = .ok (.iload_n 1, 1) := by decide +kernel
theorem dX3_addOne_5 : decode cX3_addOne 5 = .ok (.aload_n 0, 1) := by decide +kernel
theorem dX3_addOne_6 : decode cX3_addOne 6 = .ok (.getfield 9, 3) := by decide +kernel
theorem dX3_addOne_9 : decode cX3_addOne 9 = .ok (.arraylength, 1) := by decide +kernel
theorem dX3_addOne_10 : decode cX3_addOne 10 = .ok (.if_icmp .lt 4, 3) := by decide +kernel
theorem dX3_addOne_13 : decode cX3_addOne 13 = .ok (.return_, 1) := by decide +kernel
theorem dX3_addOne_14 : decode cX3_addOne 14 = .ok (.aload_n 0, 1) := by decide +kernel
theorem dX3_addOne_15 : decode cX3_addOne 15 = .ok (.getfield 9, 3) := by decide +kernel
theorem dX3_addOne_18 : decode cX3_addOne 18 = .ok (.iload_n 1, 1) := by decide +kernel
theorem dX3_addOne_19 : decode cX3_addOne 19 = .ok (.iaload, 1) := by decide +kernel
theorem dX3_addOne_20 : decode cX3_addOne 20 = .ok (.ifCond .ne 11, 3) := by decide +kernel
theorem dX3_addOne_23 : decode cX3_addOne 23 = .ok (.aload_n 0, 1) := by decide +kernel
theorem dX3_addOne_24 : decode cX3_addOne 24 = .ok (.getfield 20, 3) := by decide +kernel
theorem dX3_addOne_27 : decode cX3_addOne 27 = .ok (.iload_n 1, 1) := by decide +kernel
theorem dX3_addOne_28 : decode cX3_addOne 28 = .ok (.invokevirtual 52, 3) := by decide +kernel
theorem dX3_addOne_31 : decode cX3_addOne 31 = .ok (.aload_n 0, 1) := by decide +kernel
theorem dX3_addOne_32 : decode cX3_addOne 32 = .ok (.getfield 9, 3) := by decide +kernel
theorem dX3_addOne_35 : decode cX3_addOne 35 = .ok (.iload_n 1, 1) := by decide +kernel
theorem dX3_addOne_36 : decode cX3_addOne 36 = .ok (.dup2, 1) := by decide +kernel
theorem dX3_addOne_37 : decode cX3_addOne 37 = .ok (.iaload, 1) := by decide +kernel
theorem dX3_addOne_38 : decode cX3_addOne 38 = .ok (.iconst 1, 1) := by decide +kernel
theorem dX3_addOne_39 : decode cX3_addOne 39 = .ok (.iadd, 1) := by decide +kernel
theorem dX3_addOne_40 : decode cX3_addOne 40 = .ok (.iastore, 1) := by decide +kernel
theorem dX3_addOne_41 : decode cX3_addOne 41 = .ok (.return_, 1) := by decide +kernel
theorem dX3_forget_0 : decode cX3_forget 0 = .ok (.iconst 0, 1) := by decide +kernel
theorem dX3_forget_1 : decode cX3_forget 1 = .ok (.istore_n 1, 1) := by decide +kernel
theorem dX3_forget_2 : decode cX3_forget 2 = .ok (.iload_n 1, 1) := by decide +kernel
theorem dX3_forget_3 : decode cX3_forget 3 = .ok (.aload_n 0, 1) := by decide +kernel
theorem dX3_forget_4 : decode cX3_forget 4 = .ok (.getfield 20, 3) := by decide +kernel
theorem dX3_forget_7 : decode cX3_forget 7 = .ok (.invokevirtual 27, 3) := by decide +kernel
theorem dX3_forget_10 : decode cX3_forget 10 = .ok (.if_icmp .ge 38, 3) := by decide +kernel
theorem dX3_forget_13 : decode cX3_forget 13 = .ok (.aload_n 0, 1) := by decide +kernel
theorem dX3_forget_14 : decode cX3_forget 14 = .ok (.getfield 20, 3) := by decide +kernel
theorem dX3_forget_17 : decode cX3_forget 17 = .ok (.iload_n 1, 1) := by decide +kernel
theorem dX3_forget_18 : decode cX3_forget 18 = .ok (.invokevirtual 31, 3) := by decide +kernel
theorem dX3_forget_21 : decode cX3_forget 21 = .ok (.istore_n 2, 1) := by decide +kernel
theorem dX3_forget_22 : decode cX3_forget 22 = .ok (.iload_n 2, 1) := by decide +kernel
theorem dX3_forget_23 : decode cX3_forget 23 = .ok (.ifCond .lt 19, 3) := by decide +kernel
theorem dX3_forget_26 : decode cX3_forget 26 = .ok (.iload_n 2, 1) := by decide +kernel
theorem dX3_forget_27 : decode cX3_forget 27 = .ok (.aload_n 0, 1) := by decide +kernel
theorem dX3_forget_28 : decode cX3_forget 28 = .ok (.getfield 9, 3) := by decide +kernel
theorem dX3_forget_31 : decode cX3_forget 31 = .ok (.arraylength, 1) := by decide +kernel
theorem dX3_forget_32 : decode cX3_forget 32 = .ok (.if_icmp .ge 10, 3) := by decide +kernel
theorem dX3_forget_35 : decode cX3_forget 35 = .ok (.aload_n 0, 1) := by decide +kernel
theorem dX3_forget_36 : decode cX3_forget 36 = .ok (.getfield 9, 3) := by decide +kernel
theorem dX3_forget_39 : decode cX3_forget 39 = .ok (.iload_n 2, 1) := by decide +kernel
theorem dX3_forget_40 : decode cX3_forget 40 = .ok (.iconst 0, 1) := by decide +kernel
theorem dX3_forget_41 : decode cX3_forget 41 = .ok (.iastore, 1) := by decide +kernel
theorem dX3_forget_42 : decode cX3_forget 42 = .ok (.iinc 1 1, 3) := by decide +kernel
theorem dX3_forget_45 : decode cX3_forget 45 = .ok (.goto (-43), 3) := by decide +kernel
theorem dX3_forget_48 : decode cX3_forget 48 = .ok (.aload_n 0, 1) := by decide +kernel
theorem dX3_forget_49 : decode cX3_forget 49 = .ok (.getfield 20, 3) := by decide +kernel
theorem dX3_forget_52 : decode cX3_forget 52 = .ok (.invokevirtual 55, 3) := by decide +kernel
theorem dX3_forget_55 : decode cX3_forget 55 = .ok (.return_, 1) := by decide +kernel
theorem dX4_init_0 : decode cX4_init 0 = .ok (.aload_n 0, 1) := by decide +kernel
theorem dX4_init_1 : decode cX4_init 1 = .ok (.invokespecial 3, 3) := by decide +kernel
theorem dX4_init_4 : decode cX4_init 4 = .ok (.aload_n 0, 1) := by decide +kernel
theorem dX4_init_5 : decode cX4_init 5 = .ok (.bipush 10, 2) := by decide +kernel
theorem dX4_init_7 : decode cX4_init 7 = .ok (.anewarray 9, 3) := by decide +kernel
theorem dX4_init_10 : decode cX4_init 10 = .ok (.putfield 11, 3) := by decide +kernel
theorem dX4_init_13 : decode cX4_init 13 = .ok (.aload_n 0, 1) := by decide +kernel
theorem dX4_init_14 : decode cX4_init 14 = .ok (.iconst 0, 1) := by decide +kernel
theorem dX4_init_15 : decode cX4_init 15 = .ok (.putfield 17, 3) := by decide +kernel
theorem dX4_init_18 : decode cX4_init 18 = .ok (.aload_n 0, 1) := by decide +kernel
theorem dX4_init_19 : decode cX4_init 19 = .ok (.iconst 0, 1) := by decide +kernel
theorem dX4_init_20 : decode cX4_init 20 = .ok (.putfield 21, 3) := by decide +kernel
theorem dX4_init_23 : decode cX4_init 23 = .ok (.iconst 0, 1) := by decide +kernel
theorem dX4_init_24 : decode cX4_init 24 = .ok (.istore_n 1, 1) := by decide +kernel
theorem dX4_init_25 : decode cX4_init 25 = .ok (.iload_n 1, 1) := by decide +kernel
theorem dX4_init_26 : decode cX4_init 26 = .ok (.bipush 10, 2) := by decide +kernel
theorem dX4_init_28 : decode cX4_init 28 = .ok (.if_icmp .ge 22, 3) := by decide +kernel
theorem dX4_init_31 : decode cX4_init 31 = .ok (.aload_n 0, 1) := by decide +kernel
theorem dX4_init_32 : decode cX4_init 32 = .ok (.getfield 11, 3) := by decide +kernel
theorem dX4_init_35 : decode cX4_init 35 = .ok (.iload_n 1, 1) := by decide +kernel
theorem dX4_init_36 : decode cX4_init 36 = .ok (.new 9, 3) := by decide +kernel
theorem dX4_init_39 : decode cX4_init 39 = .ok (.dup, 1) := by decide +kernel
theorem dX4_init_40 : decode cX4_init 40 = .ok (.invokespecial 24, 3) := by decide +kernel
theorem dX4_init_43 : decode cX4_init 43 = .ok (.aastore, 1) := by decide +kernel
theorem dX4_init_44 : decode cX4_init 44 = .ok (.iinc 1 1, 3) := by decide +kernel
theorem dX4_init_47 : decode cX4_init 47 = .ok (.goto (-22), 3) := by decide +kernel
theorem dX4_init_50 : decode cX4_init 50 = .ok (.return_, 1) := by decide +kernel
theorem dX4_size_0 : decode cX4_size 0 = .ok (.aload_n 0, 1) := by decide +kernel
theorem dX4_size_1 : decode cX4_size 1 = .ok (.getfield 21, 3) := by decide +kernel
theorem dX4_size_4 : decode cX4_size 4 = .ok (.ireturn, 1) := by decide +kernel
theorem dX4_forget_0 : decode cX4_forget 0 = .ok (.aload_n 0, 1) := by decide +kernel
theorem dX4_forget_1 : decode cX4_forget 1 = .ok (.iconst 0, 1) := by decide +kernel
theorem dX4_forget_2 : decode cX4_forget 2 = .ok (.putfield 21, 3) := by decide +kernel
theorem dX4_forget_5 : decode cX4_forget 5 = .ok (.return_, 1) := by decide +kernel
theorem dX4_keep_0 : decode cX4_keep 0 = .ok (.aload_n 0, 1) := by decide +kernel
theorem dX4_keep_1 : decode cX4_keep 1 = .ok (.getfield 11, 3) := by decide +kernel
theorem dX4_keep_4 : decode cX4_keep 4 = .ok (.aload_n 0, 1) := by decide +kernel
theorem dX4_keep_5 : decode cX4_keep 5 = .ok (.getfield 17, 3) := by decide +kernel
theorem dX4_keep_8 : decode cX4_keep 8 = .ok (.aaload, 1) := by decide +kernel
theorem dX4_keep_9 : decode cX4_keep 9 = .ok (.aload_n 1, 1) := by decide +kernel
theorem dX4_keep_10 : decode cX4_keep 10 = .ok (.invokevirtual 25, 3) := by decide +kernel
theorem dX4_keep_13 : decode cX4_keep 13 = .ok (.aload_n 0, 1) := by decide +kernel
theorem dX4_keep_14 : decode cX4_keep 14 = .ok (.aload_n 0, 1) := by decide +kernel
theorem dX4_keep_15 : decode cX4_keep 15 = .ok (.getfield 17, 3) := by decide +kernel
theorem dX4_keep_18 : decode cX4_keep 18 = .ok (.iconst 1, 1) := by decide +kernel
theorem dX4_keep_19 : decode cX4_keep 19 = .ok (.iadd, 1) := by decide +kernel
theorem dX4_keep_20 : decode cX4_keep 20 = .ok (.bipush 10, 2) := by decide +kernel
theorem dX4_keep_22 : decode cX4_keep 22 = .ok (.invokestatic 29, 3) := by decide +kernel
theorem dX4_keep_25 : decode cX4_keep 25 = .ok (.putfield 17, 3) := by decide +kernel
theorem dX4_keep_28 : decode cX4_keep 28 = .ok (.aload_n 0, 1) := by decide +kernel
theorem dX4_keep_29 : decode cX4_keep 29 = .ok (.aload_n 0, 1) := by decide +kernel
theorem dX4_keep_30 : decode cX4_keep 30 = .ok (.getfield 21, 3) := by decide +kernel
theorem dX4_keep_33 : decode cX4_keep 33 = .ok (.iconst 1, 1) := by decide +kernel
theorem dX4_keep_34 : decode cX4_keep 34 = .ok (.iadd, 1) := by decide +kernel
theorem dX4_keep_35 : decode cX4_keep 35 = .ok (.bipush 10, 2) := by decide +kernel
theorem dX4_keep_37 : decode cX4_keep 37 = .ok (.invokestatic 35, 3) := by decide +kernel
theorem dX4_keep_40 : decode cX4_keep 40 = .ok (.putfield 21, 3) := by decide +kernel
theorem dX4_keep_43 : decode cX4_keep 43 = .ok (.return_, 1) := by decide +kernel
theorem dX4_goBack_0 : decode cX4_goBack 0 = .ok (.aload_n 0, 1) := by decide +kernel
theorem dX4_goBack_1 : decode cX4_goBack 1 = .ok (.aload_n 0, 1) := by decide +kernel
theorem dX4_goBack_2 : decode cX4_goBack 2 = .ok (.getfield 17, 3) := by decide +kernel
theorem dX4_goBack_5 : decode cX4_goBack 5 = .ok (.iload_n 1, 1) := by decide +kernel
theorem dX4_goBack_6 : decode cX4_goBack 6 = .ok (.isub, 1) := by decide +kernel
theorem dX4_goBack_7 : decode cX4_goBack 7 = .ok (.bipush 10, 2) := by decide +kernel
theorem dX4_goBack_9 : decode cX4_goBack 9 = .ok (.invokestatic 29, 3) := by decide +kernel
theorem dX4_goBack_12 : decode cX4_goBack 12 = .ok (.putfield 17, 3) := by decide +kernel
theorem dX4_goBack_15 : decode cX4_goBack 15 = .ok (.aload_n 0, 1) := by decide +kernel
theorem dX4_goBack_16 : decode cX4_goBack 16 = .ok (.aload_n 0, 1) := by decide +kernel
theorem dX4_goBack_17 : decode cX4_goBack 17 = .ok (.getfield 21, 3) := by decide +kernel
theorem dX4_goBack_20 : decode cX4_goBack 20 = .ok (.iload_n 1, 1) := by decide +kernel
theorem dX4_goBack_21 : decode cX4_goBack 21 = .ok (.isub, 1) := by decide +kernel
theorem dX4_goBack_22 : decode cX4_goBack 22 = .ok (.iconst 0, 1) := by decide +kernel
theorem dX4_goBack_23 : decode cX4_goBack 23 = .ok (.invokestatic 38, 3) := by decide +kernel
theorem dX4_goBack_26 : decode cX4_goBack 26 = .ok (.putfield 21, 3) := by decide +kernel
theorem dX4_goBack_29 : decode cX4_goBack 29 = .ok (.aload_n 2, 1) := by decide +kernel
theorem dX4_goBack_30 : decode cX4_goBack 30 = .ok (.aload_n 0, 1) := by decide +kernel
theorem dX4_goBack_31 : decode cX4_goBack 31 = .ok (.getfield 11, 3) := by decide +kernel
theorem dX4_goBack_34 : decode cX4_goBack 34 = .ok (.aload_n 0, 1) := by decide +kernel
theorem dX4_goBack_35 : decode cX4_goBack 35 = .ok (.getfield 17, 3) := by decide +kernel
theorem dX4_goBack_38 : decode cX4_goBack 38 = .ok (.aaload, 1) := by decide +kernel
theorem dX4_goBack_39 : decode cX4_goBack 39 = .ok (.invokevirtual 25, 3) := by decide +kernel
theorem dX4_goBack_42 : decode cX4_goBack 42 = .ok (.return_, 1) := by decide +kernel
theorem dX5_init_0 : decode cX5_init 0 = .ok (.aload_n 0, 1) := by decide +kernel
theorem dX5_init_1 : decode cX5_init 1 = .ok (.invokespecial 3, 3) := by decide +kernel
theorem dX5_init_4 : decode cX5_init 4 = .ok (.aload_n 0, 1) := by decide +kernel
theorem dX5_init_5 : decode cX5_init 5 = .ok (.new 9, 3) := by decide +kernel
theorem dX5_init_8 : decode cX5_init 8 = .ok (.dup, 1) := by decide +kernel
theorem dX5_init_9 : decode cX5_init 9 = .ok (.sipush 240, 3) := by decide +kernel
theorem dX5_init_12 : decode cX5_init 12 = .ok (.invokespecial 11, 3) := by decide +kernel
theorem dX5_init_15 : decode cX5_init 15 = .ok (.putfield 14, 3) := by decide +kernel
theorem dX5_init_18 : decode cX5_init 18 = .ok (.aload_n 0, 1) := by decide +kernel
theorem dX5_init_19 : decode cX5_init 19 = .ok (.new 9, 3) := by decide +kernel
theorem dX5_init_22 : decode cX5_init 22 = .ok (.dup, 1) := by decide +kernel
theorem dX5_init_23 : decode cX5_init 23 = .ok (.sipush 240, 3) := by decide +kernel
theorem dX5_init_26 : decode cX5_init 26 = .ok (.invokespecial 11, 3) := by decide +kernel
theorem dX5_init_29 : decode cX5_init 29 = .ok (.putfield 20, 3) := by decide +kernel
theorem dX5_init_32 : decode cX5_init 32 = .ok (.aload_n 0, 1) := by decide +kernel
theorem dX5_init_33 : decode cX5_init 33 = .ok (.new 9, 3) := by decide +kernel
theorem dX5_init_36 : decode cX5_init 36 = .ok (.dup, 1) := by decide +kernel
theorem dX5_init_37 : decode cX5_init 37 = .ok (.sipush 240, 3) := by decide +kernel
theorem dX5_init_40 : decode cX5_init 40 = .ok (.invokespecial 11, 3) := by decide +kernel
theorem dX5_init_43 : decode cX5_init 43 = .ok (.putfield 23, 3) := by decide +kernel
theorem dX5_init_46 : decode cX5_init 46 = .ok (.aload_n 0, 1) := by decide +kernel
theorem dX5_init_47 : decode cX5_init 47 = .ok (.new 9, 3) := by decide +kernel
theorem dX5_init_50 : decode cX5_init 50 = .ok (.dup, 1) := by decide +kernel
theorem dX5_init_51 : decode cX5_init 51 = .ok (.sipush 240, 3) := by decide +kernel
theorem dX5_init_54 : decode cX5_init 54 = .ok (.invokespecial 11, 3) := by decide +kernel
theorem dX5_init_57 : decode cX5_init 57 = .ok (.putfield 26, 3) := by decide +kernel
theorem dX5_init_60 : decode cX5_init 60 = .ok (.aload_n 0, 1) := by decide +kernel
theorem dX5_init_61 : decode cX5_init 61 = .ok (.sipush 241, 3) := by decide +kernel
theorem dX5_init_64 : decode cX5_init 64 = .ok (.newarray .int, 2) := by decide +kernel
theorem dX5_init_66 : decode cX5_init 66 = .ok (.putfield 29, 3) := by decide +kernel
theorem dX5_init_69 : decode cX5_init 69 = .ok (.aload_n 0, 1) := by decide +kernel
theorem dX5_init_70 : decode cX5_init 70 = .ok (.iconst 0, 1) := by decide +kernel
theorem dX5_init_71 : decode cX5_init 71 = .ok (.putfield 33, 3) := by decide +kernel
theorem dX5_init_74 : decode cX5_init 74 = .ok (.aload_n 0, 1) := by decide +kernel
theorem dX5_init_75 : decode cX5_init 75 = .ok (.iconst (-1), 1) := by decide +kernel
theorem dX5_init_76 : decode cX5_init 76 = .ok (.putfield 37, 3) := by decide +kernel
theorem dX5_init_79 : decode cX5_init 79 = .ok (.return_, 1) := by decide +kernel
theorem dX5_readRow_0 : decode cX5_readRow 0 = .ok (.aload_n 0, 1) := by decide +kernel
theorem dX5_readRow_1 : decode cX5_readRow 1 = .ok (.getfield 14, 3) := by decide +kernel
theorem dX5_readRow_4 : decode cX5_readRow 4 = .ok (.invokevirtual 40, 3) := by decide +kernel
theorem dX5_readRow_7 : decode cX5_readRow 7 = .ok (.aload_n 0, 1) := by decide +kernel
theorem dX5_readRow_8 : decode cX5_readRow 8 = .ok (.getfield 20, 3) := by decide +kernel
theorem dX5_readRow_11 : decode cX5_readRow 11 = .ok (.invokevirtual 40, 3) := by decide +kernel
theorem dX5_readRow_14 : decode cX5_readRow 14 = .ok (.aload_n 0, 1) := by decide +kernel
theorem dX5_readRow_15 : decode cX5_readRow 15 = .ok (.getfield 23, 3) := by decide +kernel
theorem dX5_readRow_18 : decode cX5_readRow 18 = .ok (.invokevirtual 40, 3) := by decide +kernel
theorem dX5_readRow_21 : decode cX5_readRow 21 = .ok (.aload_n 0, 1) := by decide +kernel
theorem dX5_readRow_22 : decode cX5_readRow 22 = .ok (.getfield 26, 3) := by decide +kernel
theorem dX5_readRow_25 : decode cX5_readRow 25 = .ok (.invokevirtual 40, 3) := by decide +kernel
theorem dX5_readRow_28 : decode cX5_readRow 28 = .ok (.iconst 0, 1) := by decide +kernel
theorem dX5_readRow_29 : decode cX5_readRow 29 = .ok (.istore 4, 2) := by decide +kernel
theorem dX5_readRow_31 : decode cX5_readRow 31 = .ok (.iload 4, 2) := by decide +kernel
theorem dX5_readRow_33 : decode cX5_readRow 33 = .ok (.aload_n 1, 1) := by decide +kernel
theorem dX5_readRow_34 : decode cX5_readRow 34 = .ok (.invokevirtual 43, 3) := by decide +kernel
theorem dX5_readRow_37 : decode cX5_readRow 37 = .ok (.if_icmp .ge 108, 3) := by decide +kernel
theorem dX5_readRow_40 : decode cX5_readRow 40 = .ok (.aload_n 0, 1) := by decide +kernel
theorem dX5_readRow_41 : decode cX5_readRow 41 = .ok (.getfield 14, 3) := by decide +kernel
theorem dX5_readRow_44 : decode cX5_readRow 44 = .ok (.invokevirtual 43, 3) := by decide +kernel
theorem dX5_readRow_47 : decode cX5_readRow 47 = .ok (.istore 5, 2) := by decide +kernel
theorem dX5_readRow_49 : decode cX5_readRow 49 = .ok (.iload 5, 2) := by decide +kernel
theorem dX5_readRow_51 : decode cX5_readRow 51 = .ok (.aload_n 3, 1) := by decide +kernel
theorem dX5_readRow_52 : decode cX5_readRow 52 = .ok (.aload_n 1, 1) := by decide +kernel
theorem dX5_readRow_53 : decode cX5_readRow 53 = .ok (.iload 4, 2) := by decide +kernel
theorem dX5_readRow_55 : decode cX5_readRow 55 = .ok (.invokevirtual 47, 3) := by decide +kernel
theorem dX5_readRow_58 : decode cX5_readRow 58 = .ok (.invokevirtual 51, 3) := by decide +kernel
theorem dX5_readRow_61 : decode cX5_readRow 61 = .ok (.iadd, 1) := by decide +kernel
theorem dX5_readRow_62 : decode cX5_readRow 62 = .ok (.istore 6, 2) := by decide +kernel
theorem dX5_readRow_64 : decode cX5_readRow 64 = .ok (.iload 5, 2) := by decide +kernel
theorem dX5_readRow_66 : decode cX5_readRow 66 = .ok (.istore 7, 2) := by decide +kernel
theorem dX5_readRow_68 : decode cX5_readRow 68 = .ok (.iload 7, 2) := by decide +kernel
theorem dX5_readRow_70 : decode cX5_readRow 70 = .ok (.iload 6, 2) := by decide +kernel
theorem dX5_readRow_72 : decode cX5_readRow 72 = .ok (.if_icmp .ge 67, 3) := by decide +kernel
theorem dX5_readRow_75 : decode cX5_readRow 75 = .ok (.aload_n 3, 1) := by decide +kernel
theorem dX5_readRow_76 : decode cX5_readRow 76 = .ok (.aload_n 2, 1) := by decide +kernel
theorem dX5_readRow_77 : decode cX5_readRow 77 = .ok (.aload_n 1, 1) := by decide +kernel
theorem dX5_readRow_78 : decode cX5_readRow 78 = .ok (.iload 4, 2) := by decide +kernel
theorem dX5_readRow_80 : decode cX5_readRow 80 = .ok (.invokevirtual 47, 3) := by decide +kernel
theorem dX5_readRow_83 : decode cX5_readRow 83 = .ok (.iload 7, 2) := by decide +kernel
theorem dX5_readRow_85 : decode cX5_readRow 85 = .ok (.iload 5, 2) := by decide +kernel
theorem dX5_readRow_87 : decode cX5_readRow 87 = .ok (.isub, 1) := by decide +kernel
theorem dX5_readRow_88 : decode cX5_readRow 88 = .ok (.bipush 60, 2) := by decide +kernel
theorem dX5_readRow_90 : decode cX5_readRow 90 = .ok (.invokevirtual 56, 3) := by decide +kernel
theorem dX5_readRow_93 : decode cX5_readRow 93 = .ok (.aload_n 0, 1) := by decide +kernel
theorem dX5_readRow_94 : decode cX5_readRow 94 = .ok (.getfield 14, 3) := by decide +kernel
theorem dX5_readRow_97 : decode cX5_readRow 97 = .ok (.aload_n 3, 1) := by decide +kernel
theorem dX5_readRow_98 : decode cX5_readRow 98 = .ok (.invokevirtual 60, 3) := by decide +kernel
theorem dX5_readRow_101 : decode cX5_readRow 101 = .ok (.invokevirtual 63, 3) := by decide +kernel
theorem dX5_readRow_104 : decode cX5_readRow 104 = .ok (.aload_n 0, 1) := by decide +kernel
theorem dX5_readRow_105 : decode cX5_readRow 105 = .ok (.getfield 20, 3) := by decide +kernel
theorem dX5_readRow_108 : decode cX5_readRow 108 = .ok (.iload 4, 2) := by decide +kernel
theorem dX5_readRow_110 : decode cX5_readRow 110 = .ok (.invokevirtual 63, 3) := by decide +kernel
theorem dX5_readRow_113 : decode cX5_readRow 113 = .ok (.aload_n 0, 1) := by decide +kernel
theorem dX5_readRow_114 : decode cX5_readRow 114 = .ok (.getfield 23, 3) := by decide +kernel
theorem dX5_readRow_117 : decode cX5_readRow 117 = .ok (.iload 5, 2) := by decide +kernel
theorem dX5_readRow_119 : decode cX5_readRow 119 = .ok (.invokevirtual 63, 3) := by decide +kernel
theorem dX5_readRow_122 : decode cX5_readRow 122 = .ok (.aload_n 0, 1) := by decide +kernel
theorem dX5_readRow_123 : decode cX5_readRow 123 = .ok (.getfield 26, 3) := by decide +kernel
theorem dX5_readRow_126 : decode cX5_readRow 126 = .ok (.aload_n 3, 1) := by decide +kernel
theorem dX5_readRow_127 : decode cX5_readRow 127 = .ok (.invokevirtual 66, 3) := by decide +kernel
theorem dX5_readRow_130 : decode cX5_readRow 130 = .ok (.invokevirtual 63, 3) := by decide +kernel
theorem dX5_readRow_133 : decode cX5_readRow 133 = .ok (.iinc 7 1, 3) := by decide +kernel
theorem dX5_readRow_136 : decode cX5_readRow 136 = .ok (.goto (-68), 3) := by decide +kernel
theorem dX5_readRow_139 : decode cX5_readRow 139 = .ok (.iinc 4 1, 3) := by decide +kernel
theorem dX5_readRow_142 : decode cX5_readRow 142 = .ok (.goto (-111), 3) := by decide +kernel
theorem dX5_readRow_145 : decode cX5_readRow 145 = .ok (.return_, 1) := by decide +kernel
theorem dX5_size_0 : decode cX5_size 0 = .ok (.aload_n 0, 1) := by decide +kernel
theorem dX5_size_1 : decode cX5_size 1 = .ok (.getfield 14, 3) := by decide +kernel
theorem dX5_size_4 : decode cX5_size 4 = .ok (.invokevirtual 43, 3) := by decide +kernel
theorem dX5_size_7 : decode cX5_size 7 = .ok (.ireturn, 1) := by decide +kernel
theorem dX5_hasPlace_0 : decode cX5_hasPlace 0 = .ok (.iload_n 1, 1) := by decide +kernel
theorem dX5_hasPlace_1 : decode cX5_hasPlace 1 = .ok (.ifCond .lt 18, 3) := by decide +kernel
theorem dX5_hasPlace_4 : decode cX5_hasPlace 4 = .ok (.iload_n 1, 1) := by decide +kernel
theorem dX5_hasPlace_5 : decode cX5_hasPlace 5 = .ok (.aload_n 0, 1) := by decide +kernel
theorem dX5_hasPlace_6 : decode cX5_hasPlace 6 = .ok (.getfield 14, 3) := by decide +kernel
theorem dX5_hasPlace_9 : decode cX5_hasPlace 9 = .ok (.invokevirtual 43, 3) := by decide +kernel
theorem dX5_hasPlace_12 : decode cX5_hasPlace 12 = .ok (.if_icmp .ge 7, 3) := by decide +kernel
theorem dX5_hasPlace_15 : decode cX5_hasPlace 15 = .ok (.iconst 1, 1) := by decide +kernel
theorem dX5_hasPlace_16 : decode cX5_hasPlace 16 = .ok (.goto 4, 3) := by decide +kernel
theorem dX5_hasPlace_19 : decode cX5_hasPlace 19 = .ok (.iconst 0, 1) := by decide +kernel
theorem dX5_hasPlace_20 : decode cX5_hasPlace 20 = .ok (.ireturn, 1) := by decide +kernel
theorem dX5_letterAt_0 : decode cX5_letterAt 0 = .ok (.aload_n 0, 1) := by decide +kernel
theorem dX5_letterAt_1 : decode cX5_letterAt 1 = .ok (.getfield 14, 3) := by decide +kernel
theorem dX5_letterAt_4 : decode cX5_letterAt 4 = .ok (.iload_n 1, 1) := by decide +kernel
theorem dX5_letterAt_5 : decode cX5_letterAt 5 = .ok (.invokevirtual 47, 3) := by decide +kernel
theorem dX5_letterAt_8 : decode cX5_letterAt 8 = .ok (.ireturn, 1) := by decide +kernel
theorem dX5_homeAt_0 : decode cX5_homeAt 0 = .ok (.aload_n 0, 1) := by decide +kernel
theorem dX5_homeAt_1 : decode cX5_homeAt 1 = .ok (.getfield 20, 3) := by decide +kernel
theorem dX5_homeAt_4 : decode cX5_homeAt 4 = .ok (.iload_n 1, 1) := by decide +kernel
theorem dX5_homeAt_5 : decode cX5_homeAt 5 = .ok (.invokevirtual 47, 3) := by decide +kernel
theorem dX5_homeAt_8 : decode cX5_homeAt 8 = .ok (.ireturn, 1) := by decide +kernel
theorem dX5_beginAt_0 : decode cX5_beginAt 0 = .ok (.aload_n 0, 1) := by decide +kernel
theorem dX5_beginAt_1 : decode cX5_beginAt 1 = .ok (.getfield 23, 3) := by decide +kernel
theorem dX5_beginAt_4 : decode cX5_beginAt 4 = .ok (.iload_n 1, 1) := by decide +kernel
theorem dX5_beginAt_5 : decode cX5_beginAt 5 = .ok (.invokevirtual 47, 3) := by decide +kernel
theorem dX5_beginAt_8 : decode cX5_beginAt 8 = .ok (.ireturn, 1) := by decide +kernel
theorem dX5_depthAt_0 : decode cX5_depthAt 0 = .ok (.aload_n 0, 1) := by decide +kernel
theorem dX5_depthAt_1 : decode cX5_depthAt 1 = .ok (.getfield 26, 3) := by decide +kernel
theorem dX5_depthAt_4 : decode cX5_depthAt 4 = .ok (.iload_n 1, 1) := by decide +kernel
theorem dX5_depthAt_5 : decode cX5_depthAt 5 = .ok (.invokevirtual 47, 3) := by decide +kernel
theorem dX5_depthAt_8 : decode cX5_depthAt 8 = .ok (.ireturn, 1) := by decide +kernel
theorem dX5_depthSum_0 : decode cX5_depthSum 0 = .ok (.iconst 0, 1) := by decide +kernel
theorem dX5_depthSum_1 : decode cX5_depthSum 1 = .ok (.istore_n 1, 1) := by decide +kernel
theorem dX5_depthSum_2 : decode cX5_depthSum 2 = .ok (.iconst 0, 1) := by decide +kernel
theorem dX5_depthSum_3 : decode cX5_depthSum 3 = .ok (.istore_n 2, 1) := by decide +kernel
theorem dX5_depthSum_4 : decode cX5_depthSum 4 = .ok (.iload_n 2, 1) := by decide +kernel
theorem dX5_depthSum_5 : decode cX5_depthSum 5 = .ok (.aload_n 0, 1) := by decide +kernel
theorem dX5_depthSum_6 : decode cX5_depthSum 6 = .ok (.getfield 26, 3) := by decide +kernel
theorem dX5_depthSum_9 : decode cX5_depthSum 9 = .ok (.invokevirtual 43, 3) := by decide +kernel
theorem dX5_depthSum_12 : decode cX5_depthSum 12 = .ok (.if_icmp .ge 20, 3) := by decide +kernel
theorem dX5_depthSum_15 : decode cX5_depthSum 15 = .ok (.iload_n 1, 1) := by decide +kernel
theorem dX5_depthSum_16 : decode cX5_depthSum 16 = .ok (.aload_n 0, 1) := by decide +kernel
theorem dX5_depthSum_17 : decode cX5_depthSum 17 = .ok (.getfield 26, 3) := by decide +kernel
theorem dX5_depthSum_20 : decode cX5_depthSum 20 = .ok (.iload_n 2, 1) := by decide +kernel
theorem dX5_depthSum_21 : decode cX5_depthSum 21 = .ok (.invokevirtual 47, 3) := by decide +kernel
theorem dX5_depthSum_24 : decode cX5_depthSum 24 = .ok (.iadd, 1) := by decide +kernel
theorem dX5_depthSum_25 : decode cX5_depthSum 25 = .ok (.istore_n 1, 1) := by decide +kernel
theorem dX5_depthSum_26 : decode cX5_depthSum 26 = .ok (.iinc 2 1, 3) := by decide +kernel
theorem dX5_depthSum_29 : decode cX5_depthSum 29 = .ok (.goto (-25), 3) := by decide +kernel
theorem dX5_depthSum_32 : decode cX5_depthSum 32 = .ok (.iload_n 1, 1) := by decide +kernel
theorem dX5_depthSum_33 : decode cX5_depthSum 33 = .ok (.ireturn, 1) := by decide +kernel
theorem dX5_alikeFrom_0 : decode cX5_alikeFrom 0 = .ok (.aload_n 0, 1) := by decide +kernel
theorem dX5_alikeFrom_1 : decode cX5_alikeFrom 1 = .ok (.getfield 14, 3) := by decide +kernel
theorem dX5_alikeFrom_4 : decode cX5_alikeFrom 4 = .ok (.invokevirtual 43, 3) := by decide +kernel
theorem dX5_alikeFrom_7 : decode cX5_alikeFrom 7 = .ok (.iload_n 1, 1) := by decide +kernel
theorem dX5_alikeFrom_8 : decode cX5_alikeFrom 8 = .ok (.iload_n 2, 1) := by decide +kernel
theorem dX5_alikeFrom_9 : decode cX5_alikeFrom 9 = .ok (.invokestatic 69, 3) := by decide +kernel
theorem dX5_alikeFrom_12 : decode cX5_alikeFrom 12 = .ok (.isub, 1) := by decide +kernel
theorem dX5_alikeFrom_13 : decode cX5_alikeFrom 13 = .ok (.istore_n 3, 1) := by decide +kernel
theorem dX5_alikeFrom_14 : decode cX5_alikeFrom 14 = .ok (.iconst 0, 1) := by decide +kernel
theorem dX5_alikeFrom_15 : decode cX5_alikeFrom 15 = .ok (.istore 4, 2) := by decide +kernel
theorem dX5_alikeFrom_17 : decode cX5_alikeFrom 17 = .ok (.iload 4, 2) := by decide +kernel
theorem dX5_alikeFrom_19 : decode cX5_alikeFrom 19 = .ok (.iload_n 3, 1) := by decide +kernel
theorem dX5_alikeFrom_20 : decode cX5_alikeFrom 20 = .ok (.if_icmp .ge 37, 3) := by decide +kernel
theorem dX5_alikeFrom_23 : decode cX5_alikeFrom 23 = .ok (.aload_n 0, 1) := by decide +kernel
theorem dX5_alikeFrom_24 : decode cX5_alikeFrom 24 = .ok (.getfield 14, 3) := by decide +kernel
theorem dX5_alikeFrom_27 : decode cX5_alikeFrom 27 = .ok (.iload_n 1, 1) := by decide +kernel
theorem dX5_alikeFrom_28 : decode cX5_alikeFrom 28 = .ok (.iload 4, 2) := by decide +kernel
theorem dX5_alikeFrom_30 : decode cX5_alikeFrom 30 = .ok (.iadd, 1) := by decide +kernel
theorem dX5_alikeFrom_31 : decode cX5_alikeFrom 31 = .ok (.invokevirtual 47, 3) := by decide +kernel
theorem dX5_alikeFrom_34 : decode cX5_alikeFrom 34 = .ok (.aload_n 0, 1) := by decide +kernel
theorem dX5_alikeFrom_35 : decode cX5_alikeFrom 35 = .ok (.getfield 14, 3) := by decide +kernel
theorem dX5_alikeFrom_38 : decode cX5_alikeFrom 38 = .ok (.iload_n 2, 1) := by decide +kernel
theorem dX5_alikeFrom_39 : decode cX5_alikeFrom 39 = .ok (.iload 4, 2) := by decide +kernel
theorem dX5_alikeFrom_41 : decode cX5_alikeFrom 41 = .ok (.iadd, 1) := by decide +kernel
theorem dX5_alikeFrom_42 : decode cX5_alikeFrom 42 = .ok (.invokevirtual 47, 3) := by decide +kernel
theorem dX5_alikeFrom_45 : decode cX5_alikeFrom 45 = .ok (.if_icmp .eq 6, 3) := by decide +kernel
theorem dX5_alikeFrom_48 : decode cX5_alikeFrom 48 = .ok (.iload 4, 2) := by decide +kernel
theorem dX5_alikeFrom_50 : decode cX5_alikeFrom 50 = .ok (.ireturn, 1) := by decide +kernel
theorem dX5_alikeFrom_51 : decode cX5_alikeFrom 51 = .ok (.iinc 4 1, 3) := by decide +kernel
theorem dX5_alikeFrom_54 : decode cX5_alikeFrom 54 = .ok (.goto (-37), 3) := by decide +kernel
theorem dX5_alikeFrom_57 : decode cX5_alikeFrom 57 = .ok (.iload_n 3, 1) := by decide +kernel
theorem dX5_alikeFrom_58 : decode cX5_alikeFrom 58 = .ok (.iconst 0, 1) := by decide +kernel
theorem dX5_alikeFrom_59 : decode cX5_alikeFrom 59 = .ok (.invokestatic 69, 3) := by decide +kernel
theorem dX5_alikeFrom_62 : decode cX5_alikeFrom 62 = .ok (.ireturn, 1) := by decide +kernel
theorem dX5_seekTwice_0 : decode cX5_seekTwice 0 = .ok (.aload_n 0, 1) := by decide +kernel
theorem dX5_seekTwice_1 : decode cX5_seekTwice 1 = .ok (.iconst 0, 1) := by decide +kernel
theorem dX5_seekTwice_2 : decode cX5_seekTwice 2 = .ok (.putfield 33, 3) := by decide +kernel
theorem dX5_seekTwice_5 : decode cX5_seekTwice 5 = .ok (.aload_n 0, 1) := by decide +kernel
theorem dX5_seekTwice_6 : decode cX5_seekTwice 6 = .ok (.iconst (-1), 1) := by decide +kernel
theorem dX5_seekTwice_7 : decode cX5_seekTwice 7 = .ok (.putfield 37, 3) := by decide +kernel
theorem dX5_seekTwice_10 : decode cX5_seekTwice 10 = .ok (.aload_n 0, 1) := by decide +kernel
theorem dX5_seekTwice_11 : decode cX5_seekTwice 11 = .ok (.getfield 14, 3) := by decide +kernel
theorem dX5_seekTwice_14 : decode cX5_seekTwice 14 = .ok (.invokevirtual 43, 3) := by decide +kernel
theorem dX5_seekTwice_17 : decode cX5_seekTwice 17 = .ok (.istore_n 1, 1) := by decide +kernel
theorem dX5_seekTwice_18 : decode cX5_seekTwice 18 = .ok (.iload_n 1, 1) := by decide +kernel
theorem dX5_seekTwice_19 : decode cX5_seekTwice 19 = .ok (.aload_n 0, 1) := by decide +kernel
theorem dX5_seekTwice_20 : decode cX5_seekTwice 20 = .ok (.getfield 29, 3) := by decide +kernel
theorem dX5_seekTwice_23 : decode cX5_seekTwice 23 = .ok (.arraylength, 1) := by decide +kernel
theorem dX5_seekTwice_24 : decode cX5_seekTwice 24 = .ok (.if_icmp .lt 4, 3) := by decide +kernel
theorem dX5_seekTwice_27 : decode cX5_seekTwice 27 = .ok (.return_, 1) := by decide +kernel
theorem dX5_seekTwice_28 : decode cX5_seekTwice 28 = .ok (.aload_n 0, 1) := by decide +kernel
theorem dX5_seekTwice_29 : decode cX5_seekTwice 29 = .ok (.getfield 29, 3) := by decide +kernel
theorem dX5_seekTwice_32 : decode cX5_seekTwice 32 = .ok (.iload_n 1, 1) := by decide +kernel
theorem dX5_seekTwice_33 : decode cX5_seekTwice 33 = .ok (.iconst 0, 1) := by decide +kernel
theorem dX5_seekTwice_34 : decode cX5_seekTwice 34 = .ok (.iastore, 1) := by decide +kernel
theorem dX5_seekTwice_35 : decode cX5_seekTwice 35 = .ok (.iload_n 1, 1) := by decide +kernel
theorem dX5_seekTwice_36 : decode cX5_seekTwice 36 = .ok (.iconst 2, 1) := by decide +kernel
theorem dX5_seekTwice_37 : decode cX5_seekTwice 37 = .ok (.isub, 1) := by decide +kernel
theorem dX5_seekTwice_38 : decode cX5_seekTwice 38 = .ok (.istore_n 2, 1) := by decide +kernel
theorem dX5_seekTwice_39 : decode cX5_seekTwice 39 = .ok (.iload_n 2, 1) := by decide +kernel
theorem dX5_seekTwice_40 : decode cX5_seekTwice 40 = .ok (.ifCond .lt 100, 3) := by decide +kernel
theorem dX5_seekTwice_43 : decode cX5_seekTwice 43 = .ok (.iload_n 2, 1) := by decide +kernel
theorem dX5_seekTwice_44 : decode cX5_seekTwice 44 = .ok (.iconst 1, 1) := by decide +kernel
theorem dX5_seekTwice_45 : decode cX5_seekTwice 45 = .ok (.iadd, 1) := by decide +kernel
theorem dX5_seekTwice_46 : decode cX5_seekTwice 46 = .ok (.istore_n 3, 1) := by decide +kernel
theorem dX5_seekTwice_47 : decode cX5_seekTwice 47 = .ok (.iload_n 3, 1) := by decide +kernel
theorem dX5_seekTwice_48 : decode cX5_seekTwice 48 = .ok (.iload_n 1, 1) := by decide +kernel
theorem dX5_seekTwice_49 : decode cX5_seekTwice 49 = .ok (.if_icmp .ge 85, 3) := by decide +kernel
theorem dX5_seekTwice_52 : decode cX5_seekTwice 52 = .ok (.aload_n 0, 1) := by decide +kernel
theorem dX5_seekTwice_53 : decode cX5_seekTwice 53 = .ok (.getfield 29, 3) := by decide +kernel
theorem dX5_seekTwice_56 : decode cX5_seekTwice 56 = .ok (.iload_n 3, 1) := by decide +kernel
theorem dX5_seekTwice_57 : decode cX5_seekTwice 57 = .ok (.aload_n 0, 1) := by decide +kernel
theorem dX5_seekTwice_58 : decode cX5_seekTwice 58 = .ok (.getfield 14, 3) := by decide +kernel
theorem dX5_seekTwice_61 : decode cX5_seekTwice 61 = .ok (.iload_n 2, 1) := by decide +kernel
theorem dX5_seekTwice_62 : decode cX5_seekTwice 62 = .ok (.invokevirtual 47, 3) := by decide +kernel
theorem dX5_seekTwice_65 : decode cX5_seekTwice 65 = .ok (.aload_n 0, 1) := by decide +kernel
theorem dX5_seekTwice_66 : decode cX5_seekTwice 66 = .ok (.getfield 14, 3) := by decide +kernel
theorem dX5_seekTwice_69 : decode cX5_seekTwice 69 = .ok (.iload_n 3, 1) := by decide +kernel
theorem dX5_seekTwice_70 : decode cX5_seekTwice 70 = .ok (.invokevirtual 47, 3) := by decide +kernel
theorem dX5_seekTwice_73 : decode cX5_seekTwice 73 = .ok (.if_icmp .ne 16, 3) := by decide +kernel
theorem dX5_seekTwice_76 : decode cX5_seekTwice 76 = .ok (.aload_n 0, 1) := by decide +kernel
theorem dX5_seekTwice_77 : decode cX5_seekTwice 77 = .ok (.getfield 29, 3) := by decide +kernel
theorem dX5_seekTwice_80 : decode cX5_seekTwice 80 = .ok (.iload_n 3, 1) := by decide +kernel
theorem dX5_seekTwice_81 : decode cX5_seekTwice 81 = .ok (.iconst 1, 1) := by decide +kernel
theorem dX5_seekTwice_82 : decode cX5_seekTwice 82 = .ok (.iadd, 1) := by decide +kernel
theorem dX5_seekTwice_83 : decode cX5_seekTwice 83 = .ok (.iaload, 1) := by decide +kernel
theorem dX5_seekTwice_84 : decode cX5_seekTwice 84 = .ok (.iconst 1, 1) := by decide +kernel
theorem dX5_seekTwice_85 : decode cX5_seekTwice 85 = .ok (.iadd, 1) := by decide +kernel
theorem dX5_seekTwice_86 : decode cX5_seekTwice 86 = .ok (.goto 4, 3) := by decide +kernel
theorem dX5_seekTwice_89 : decode cX5_seekTwice 89 = .ok (.iconst 0, 1) := by decide +kernel
theorem dX5_seekTwice_90 : decode cX5_seekTwice 90 = .ok (.iastore, 1) := by decide +kernel
theorem dX5_seekTwice_91 : decode cX5_seekTwice 91 = .ok (.aload_n 0, 1) := by decide +kernel
theorem dX5_seekTwice_92 : decode cX5_seekTwice 92 = .ok (.getfield 29, 3) := by decide +kernel
theorem dX5_seekTwice_95 : decode cX5_seekTwice 95 = .ok (.iload_n 3, 1) := by decide +kernel
theorem dX5_seekTwice_96 : decode cX5_seekTwice 96 = .ok (.iaload, 1) := by decide +kernel
theorem dX5_seekTwice_97 : decode cX5_seekTwice 97 = .ok (.ifCond .le 31, 3) := by decide +kernel
theorem dX5_seekTwice_100 : decode cX5_seekTwice 100 = .ok (.aload_n 0, 1) := by decide +kernel
theorem dX5_seekTwice_101 : decode cX5_seekTwice 101 = .ok (.getfield 29, 3) := by decide +kernel
theorem dX5_seekTwice_104 : decode cX5_seekTwice 104 = .ok (.iload_n 3, 1) := by decide +kernel
theorem dX5_seekTwice_105 : decode cX5_seekTwice 105 = .ok (.iaload, 1) := by decide +kernel
theorem dX5_seekTwice_106 : decode cX5_seekTwice 106 = .ok (.aload_n 0, 1) := by decide +kernel
theorem dX5_seekTwice_107 : decode cX5_seekTwice 107 = .ok (.getfield 33, 3) := by decide +kernel
theorem dX5_seekTwice_110 : decode cX5_seekTwice 110 = .ok (.if_icmp .lt 18, 3) := by decide +kernel
theorem dX5_seekTwice_113 : decode cX5_seekTwice 113 = .ok (.aload_n 0, 1) := by decide +kernel
theorem dX5_seekTwice_114 : decode cX5_seekTwice 114 = .ok (.aload_n 0, 1) := by decide +kernel
theorem dX5_seekTwice_115 : decode cX5_seekTwice 115 = .ok (.getfield 29, 3) := by decide +kernel
theorem dX5_seekTwice_118 : decode cX5_seekTwice 118 = .ok (.iload_n 3, 1) := by decide +kernel
theorem dX5_seekTwice_119 : decode cX5_seekTwice 119 = .ok (.iaload, 1) := by decide +kernel
theorem dX5_seekTwice_120 : decode cX5_seekTwice 120 = .ok (.putfield 33, 3) := by decide +kernel
theorem dX5_seekTwice_123 : decode cX5_seekTwice 123 = .ok (.aload_n 0, 1) := by decide +kernel
theorem dX5_seekTwice_124 : decode cX5_seekTwice 124 = .ok (.iload_n 2, 1) := by decide +kernel
theorem dX5_seekTwice_125 : decode cX5_seekTwice 125 = .ok (.putfield 37, 3) := by decide +kernel
theorem dX5_seekTwice_128 : decode cX5_seekTwice 128 = .ok (.iinc 3 1, 3) := by decide +kernel
theorem dX5_seekTwice_131 : decode cX5_seekTwice 131 = .ok (.goto (-84), 3) := by decide +kernel
theorem dX5_seekTwice_134 : decode cX5_seekTwice 134 = .ok (.iinc 2 (-1), 3) := by decide +kernel
theorem dX5_seekTwice_137 : decode cX5_seekTwice 137 = .ok (.goto (-98), 3) := by decide +kernel
theorem dX5_seekTwice_140 : decode cX5_seekTwice 140 = .ok (.return_, 1) := by decide +kernel
theorem dX5_longestTwice_0 : decode cX5_longestTwice 0 = .ok (.aload_n 0, 1) := by decide +kernel
theorem dX5_longestTwice_1 : decode cX5_longestTwice 1 = .ok (.getfield 33, 3) := by decide +kernel
theorem dX5_longestTwice_4 : decode cX5_longestTwice 4 = .ok (.ireturn, 1) := by decide +kernel
theorem dX5_twiceAt_0 : decode cX5_twiceAt 0 = .ok (.aload_n 0, 1) := by decide +kernel
theorem dX5_twiceAt_1 : decode cX5_twiceAt 1 = .ok (.getfield 37, 3) := by decide +kernel
theorem dX5_twiceAt_4 : decode cX5_twiceAt 4 = .ok (.ireturn, 1) := by decide +kernel
theorem dX5_hitsOf_0 : decode cX5_hitsOf 0 = .ok (.iconst 0, 1) := by decide +kernel
theorem dX5_hitsOf_1 : decode cX5_hitsOf 1 = .ok (.istore_n 2, 1) := by decide +kernel
theorem dX5_hitsOf_2 : decode cX5_hitsOf 2 = .ok (.iconst 0, 1) := by decide +kernel
theorem dX5_hitsOf_3 : decode cX5_hitsOf 3 = .ok (.istore_n 3, 1) := by decide +kernel
theorem dX5_hitsOf_4 : decode cX5_hitsOf 4 = .ok (.iload_n 3, 1) := by decide +kernel
theorem dX5_hitsOf_5 : decode cX5_hitsOf 5 = .ok (.aload_n 0, 1) := by decide +kernel
theorem dX5_hitsOf_6 : decode cX5_hitsOf 6 = .ok (.getfield 14, 3) := by decide +kernel
theorem dX5_hitsOf_9 : decode cX5_hitsOf 9 = .ok (.invokevirtual 43, 3) := by decide +kernel
theorem dX5_hitsOf_12 : decode cX5_hitsOf 12 = .ok (.if_icmp .ge 21, 3) := by decide +kernel
theorem dX5_hitsOf_15 : decode cX5_hitsOf 15 = .ok (.aload_n 0, 1) := by decide +kernel
theorem dX5_hitsOf_16 : decode cX5_hitsOf 16 = .ok (.aload_n 1, 1) := by decide +kernel
theorem dX5_hitsOf_17 : decode cX5_hitsOf 17 = .ok (.iload_n 3, 1) := by decide +kernel
theorem dX5_hitsOf_18 : decode cX5_hitsOf 18 = .ok (.invokevirtual 75, 3) := by decide +kernel
theorem dX5_hitsOf_21 : decode cX5_hitsOf 21 = .ok (.ifCond .eq 6, 3) := by decide +kernel
theorem dX5_hitsOf_24 : decode cX5_hitsOf 24 = .ok (.iinc 2 1, 3) := by decide +kernel
theorem dX5_hitsOf_27 : decode cX5_hitsOf 27 = .ok (.iinc 3 1, 3) := by decide +kernel
theorem dX5_hitsOf_30 : decode cX5_hitsOf 30 = .ok (.goto (-26), 3) := by decide +kernel
theorem dX5_hitsOf_33 : decode cX5_hitsOf 33 = .ok (.iload_n 2, 1) := by decide +kernel
theorem dX5_hitsOf_34 : decode cX5_hitsOf 34 = .ok (.ireturn, 1) := by decide +kernel
theorem dX5_crossingsOf_0 : decode cX5_crossingsOf 0 = .ok (.iconst 0, 1) := by decide +kernel
theorem dX5_crossingsOf_1 : decode cX5_crossingsOf 1 = .ok (.istore_n 2, 1) := by decide +kernel
theorem dX5_crossingsOf_2 : decode cX5_crossingsOf 2 = .ok (.iconst 0, 1) := by decide +kernel
theorem dX5_crossingsOf_3 : decode cX5_crossingsOf 3 = .ok (.istore_n 3, 1) := by decide +kernel
theorem dX5_crossingsOf_4 : decode cX5_crossingsOf 4 = .ok (.iload_n 3, 1) := by decide +kernel
theorem dX5_crossingsOf_5 : decode cX5_crossingsOf 5 = .ok (.aload_n 0, 1) := by decide +kernel
theorem dX5_crossingsOf_6 : decode cX5_crossingsOf 6 = .ok (.getfield 14, 3) := by decide +kernel
theorem dX5_crossingsOf_9 : decode cX5_crossingsOf 9 = .ok (.invokevirtual 43, 3) := by decide +kernel
theorem dX5_crossingsOf_12 : decode cX5_crossingsOf 12 = .ok (.if_icmp .ge 47, 3) := by decide +kernel
theorem dX5_crossingsOf_15 : decode cX5_crossingsOf 15 = .ok (.aload_n 0, 1) := by decide +kernel
theorem dX5_crossingsOf_16 : decode cX5_crossingsOf 16 = .ok (.aload_n 1, 1) := by decide +kernel
theorem dX5_crossingsOf_17 : decode cX5_crossingsOf 17 = .ok (.iload_n 3, 1) := by decide +kernel
theorem dX5_crossingsOf_18 : decode cX5_crossingsOf 18 = .ok (.invokevirtual 75, 3) := by decide +kernel
theorem dX5_crossingsOf_21 : decode cX5_crossingsOf 21 = .ok (.ifCond .eq 32, 3) := by decide +kernel
theorem dX5_crossingsOf_24 : decode cX5_crossingsOf 24 = .ok (.aload_n 0, 1) := by decide +kernel
theorem dX5_crossingsOf_25 : decode cX5_crossingsOf 25 = .ok (.getfield 20, 3) := by decide +kernel
theorem dX5_crossingsOf_28 : decode cX5_crossingsOf 28 = .ok (.iload_n 3, 1) := by decide +kernel
theorem dX5_crossingsOf_29 : decode cX5_crossingsOf 29 = .ok (.invokevirtual 47, 3) := by decide +kernel
theorem dX5_crossingsOf_32 : decode cX5_crossingsOf 32 = .ok (.aload_n 0, 1) := by decide +kernel
theorem dX5_crossingsOf_33 : decode cX5_crossingsOf 33 = .ok (.getfield 20, 3) := by decide +kernel
theorem dX5_crossingsOf_36 : decode cX5_crossingsOf 36 = .ok (.iload_n 3, 1) := by decide +kernel
theorem dX5_crossingsOf_37 : decode cX5_crossingsOf 37 = .ok (.aload_n 1, 1) := by decide +kernel
theorem dX5_crossingsOf_38 : decode cX5_crossingsOf 38 = .ok (.invokevirtual 43, 3) := by decide +kernel
theorem dX5_crossingsOf_41 : decode cX5_crossingsOf 41 = .ok (.iadd, 1) := by decide +kernel
theorem dX5_crossingsOf_42 : decode cX5_crossingsOf 42 = .ok (.iconst 1, 1) := by decide +kernel
theorem dX5_crossingsOf_43 : decode cX5_crossingsOf 43 = .ok (.isub, 1) := by decide +kernel
theorem dX5_crossingsOf_44 : decode cX5_crossingsOf 44 = .ok (.invokevirtual 47, 3) := by decide +kernel
theorem dX5_crossingsOf_47 : decode cX5_crossingsOf 47 = .ok (.if_icmp .eq 6, 3) := by decide +kernel
theorem dX5_crossingsOf_50 : decode cX5_crossingsOf 50 = .ok (.iinc 2 1, 3) := by decide +kernel
theorem dX5_crossingsOf_53 : decode cX5_crossingsOf 53 = .ok (.iinc 3 1, 3) := by decide +kernel
theorem dX5_crossingsOf_56 : decode cX5_crossingsOf 56 = .ok (.goto (-52), 3) := by decide +kernel
theorem dX5_crossingsOf_59 : decode cX5_crossingsOf 59 = .ok (.iload_n 2, 1) := by decide +kernel
theorem dX5_crossingsOf_60 : decode cX5_crossingsOf 60 = .ok (.ireturn, 1) := by decide +kernel
theorem dX5_hitAt_0 : decode cX5_hitAt 0 = .ok (.iconst 0, 1) := by decide +kernel
theorem dX5_hitAt_1 : decode cX5_hitAt 1 = .ok (.istore_n 3, 1) := by decide +kernel
theorem dX5_hitAt_2 : decode cX5_hitAt 2 = .ok (.iconst 0, 1) := by decide +kernel
theorem dX5_hitAt_3 : decode cX5_hitAt 3 = .ok (.istore 4, 2) := by decide +kernel
theorem dX5_hitAt_5 : decode cX5_hitAt 5 = .ok (.iload 4, 2) := by decide +kernel
theorem dX5_hitAt_7 : decode cX5_hitAt 7 = .ok (.aload_n 0, 1) := by decide +kernel
theorem dX5_hitAt_8 : decode cX5_hitAt 8 = .ok (.getfield 14, 3) := by decide +kernel
theorem dX5_hitAt_11 : decode cX5_hitAt 11 = .ok (.invokevirtual 43, 3) := by decide +kernel
theorem dX5_hitAt_14 : decode cX5_hitAt 14 = .ok (.if_icmp .ge 30, 3) := by decide +kernel
theorem dX5_hitAt_17 : decode cX5_hitAt 17 = .ok (.aload_n 0, 1) := by decide +kernel
theorem dX5_hitAt_18 : decode cX5_hitAt 18 = .ok (.aload_n 1, 1) := by decide +kernel
theorem dX5_hitAt_19 : decode cX5_hitAt 19 = .ok (.iload 4, 2) := by decide +kernel
theorem dX5_hitAt_21 : decode cX5_hitAt 21 = .ok (.invokevirtual 75, 3) := by decide +kernel
theorem dX5_hitAt_24 : decode cX5_hitAt 24 = .ok (.ifCond .eq 14, 3) := by decide +kernel
theorem dX5_hitAt_27 : decode cX5_hitAt 27 = .ok (.iload_n 3, 1) := by decide +kernel
theorem dX5_hitAt_28 : decode cX5_hitAt 28 = .ok (.iload_n 2, 1) := by decide +kernel
theorem dX5_hitAt_29 : decode cX5_hitAt 29 = .ok (.if_icmp .ne 6, 3) := by decide +kernel
theorem dX5_hitAt_32 : decode cX5_hitAt 32 = .ok (.iload 4, 2) := by decide +kernel
theorem dX5_hitAt_34 : decode cX5_hitAt 34 = .ok (.ireturn, 1) := by decide +kernel
theorem dX5_hitAt_35 : decode cX5_hitAt 35 = .ok (.iinc 3 1, 3) := by decide +kernel
theorem dX5_hitAt_38 : decode cX5_hitAt 38 = .ok (.iinc 4 1, 3) := by decide +kernel
theorem dX5_hitAt_41 : decode cX5_hitAt 41 = .ok (.goto (-36), 3) := by decide +kernel
theorem dX5_hitAt_44 : decode cX5_hitAt 44 = .ok (.iconst (-1), 1) := by decide +kernel
theorem dX5_hitAt_45 : decode cX5_hitAt 45 = .ok (.ireturn, 1) := by decide +kernel
theorem dX5_isHit_0 : decode cX5_isHit 0 = .ok (.aload_n 1, 1) := by decide +kernel
theorem dX5_isHit_1 : decode cX5_isHit 1 = .ok (.invokevirtual 43, 3) := by decide +kernel
theorem dX5_isHit_4 : decode cX5_isHit 4 = .ok (.ifCond .eq 19, 3) := by decide +kernel
theorem dX5_isHit_7 : decode cX5_isHit 7 = .ok (.aload_n 1, 1) := by decide +kernel
theorem dX5_isHit_8 : decode cX5_isHit 8 = .ok (.invokevirtual 43, 3) := by decide +kernel
theorem dX5_isHit_11 : decode cX5_isHit 11 = .ok (.aload_n 0, 1) := by decide +kernel
theorem dX5_isHit_12 : decode cX5_isHit 12 = .ok (.getfield 14, 3) := by decide +kernel
theorem dX5_isHit_15 : decode cX5_isHit 15 = .ok (.invokevirtual 43, 3) := by decide +kernel
theorem dX5_isHit_18 : decode cX5_isHit 18 = .ok (.iload_n 2, 1) := by decide +kernel
theorem dX5_isHit_19 : decode cX5_isHit 19 = .ok (.isub, 1) := by decide +kernel
theorem dX5_isHit_20 : decode cX5_isHit 20 = .ok (.if_icmp .le 5, 3) := by decide +kernel
theorem dX5_isHit_23 : decode cX5_isHit 23 = .ok (.iconst 0, 1) := by decide +kernel
theorem dX5_isHit_24 : decode cX5_isHit 24 = .ok (.ireturn, 1) := by decide +kernel
theorem dX5_isHit_25 : decode cX5_isHit 25 = .ok (.iconst 0, 1) := by decide +kernel
theorem dX5_isHit_26 : decode cX5_isHit 26 = .ok (.istore_n 3, 1) := by decide +kernel
theorem dX5_isHit_27 : decode cX5_isHit 27 = .ok (.iload_n 3, 1) := by decide +kernel
theorem dX5_isHit_28 : decode cX5_isHit 28 = .ok (.aload_n 1, 1) := by decide +kernel
theorem dX5_isHit_29 : decode cX5_isHit 29 = .ok (.invokevirtual 43, 3) := by decide +kernel
theorem dX5_isHit_32 : decode cX5_isHit 32 = .ok (.if_icmp .ge 29, 3) := by decide +kernel
theorem dX5_isHit_35 : decode cX5_isHit 35 = .ok (.aload_n 0, 1) := by decide +kernel
theorem dX5_isHit_36 : decode cX5_isHit 36 = .ok (.getfield 14, 3) := by decide +kernel
theorem dX5_isHit_39 : decode cX5_isHit 39 = .ok (.iload_n 2, 1) := by decide +kernel
theorem dX5_isHit_40 : decode cX5_isHit 40 = .ok (.iload_n 3, 1) := by decide +kernel
theorem dX5_isHit_41 : decode cX5_isHit 41 = .ok (.iadd, 1) := by decide +kernel
theorem dX5_isHit_42 : decode cX5_isHit 42 = .ok (.invokevirtual 47, 3) := by decide +kernel
theorem dX5_isHit_45 : decode cX5_isHit 45 = .ok (.aload_n 1, 1) := by decide +kernel
theorem dX5_isHit_46 : decode cX5_isHit 46 = .ok (.iload_n 3, 1) := by decide +kernel
theorem dX5_isHit_47 : decode cX5_isHit 47 = .ok (.invokevirtual 47, 3) := by decide +kernel
theorem dX5_isHit_50 : decode cX5_isHit 50 = .ok (.if_icmp .eq 5, 3) := by decide +kernel
theorem dX5_isHit_53 : decode cX5_isHit 53 = .ok (.iconst 0, 1) := by decide +kernel
theorem dX5_isHit_54 : decode cX5_isHit 54 = .ok (.ireturn, 1) := by decide +kernel
theorem dX5_isHit_55 : decode cX5_isHit 55 = .ok (.iinc 3 1, 3) := by decide +kernel
theorem dX5_isHit_58 : decode cX5_isHit 58 = .ok (.goto (-31), 3) := by decide +kernel
theorem dX5_isHit_61 : decode cX5_isHit 61 = .ok (.iconst 1, 1) := by decide +kernel
theorem dX5_isHit_62 : decode cX5_isHit 62 = .ok (.ireturn, 1) := by decide +kernel
theorem dX6_init_0 : decode cX6_init 0 = .ok (.aload_n 0, 1) := by decide +kernel
theorem dX6_init_1 : decode cX6_init 1 = .ok (.invokespecial 3, 3) := by decide +kernel
theorem dX6_init_4 : decode cX6_init 4 = .ok (.aload_n 0, 1) := by decide +kernel
theorem dX6_init_5 : decode cX6_init 5 = .ok (.iconst 0, 1) := by decide +kernel
theorem dX6_init_6 : decode cX6_init 6 = .ok (.putfield 9, 3) := by decide +kernel
theorem dX6_init_9 : decode cX6_init 9 = .ok (.aload_n 0, 1) := by decide +kernel
theorem dX6_init_10 : decode cX6_init 10 = .ok (.iload_n 1, 1) := by decide +kernel
theorem dX6_init_11 : decode cX6_init 11 = .ok (.ifCond .ge 7, 3) := by decide +kernel
theorem dX6_init_14 : decode cX6_init 14 = .ok (.iconst 0, 1) := by decide +kernel
theorem dX6_init_15 : decode cX6_init 15 = .ok (.goto 4, 3) := by decide +kernel
theorem dX6_init_18 : decode cX6_init 18 = .ok (.iload_n 1, 1) := by decide +kernel
theorem dX6_init_19 : decode cX6_init 19 = .ok (.newarray .int, 2) := by decide +kernel
theorem dX6_init_21 : decode cX6_init 21 = .ok (.putfield 15, 3) := by decide +kernel
theorem dX6_init_24 : decode cX6_init 24 = .ok (.return_, 1) := by decide +kernel
theorem dX6_size_0 : decode cX6_size 0 = .ok (.aload_n 0, 1) := by decide +kernel
theorem dX6_size_1 : decode cX6_size 1 = .ok (.getfield 9, 3) := by decide +kernel
theorem dX6_size_4 : decode cX6_size 4 = .ok (.ireturn, 1) := by decide +kernel
theorem dX6_get_0 : decode cX6_get 0 = .ok (.iload_n 1, 1) := by decide +kernel
theorem dX6_get_1 : decode cX6_get 1 = .ok (.ifCond .lt 20, 3) := by decide +kernel
theorem dX6_get_4 : decode cX6_get 4 = .ok (.iload_n 1, 1) := by decide +kernel
theorem dX6_get_5 : decode cX6_get 5 = .ok (.aload_n 0, 1) := by decide +kernel
theorem dX6_get_6 : decode cX6_get 6 = .ok (.getfield 9, 3) := by decide +kernel
theorem dX6_get_9 : decode cX6_get 9 = .ok (.if_icmp .ge 12, 3) := by decide +kernel
theorem dX6_get_12 : decode cX6_get 12 = .ok (.aload_n 0, 1) := by decide +kernel
theorem dX6_get_13 : decode cX6_get 13 = .ok (.getfield 15, 3) := by decide +kernel
theorem dX6_get_16 : decode cX6_get 16 = .ok (.iload_n 1, 1) := by decide +kernel
theorem dX6_get_17 : decode cX6_get 17 = .ok (.iaload, 1) := by decide +kernel
theorem dX6_get_18 : decode cX6_get 18 = .ok (.goto 4, 3) := by decide +kernel
theorem dX6_get_21 : decode cX6_get 21 = .ok (.iconst (-1), 1) := by decide +kernel
theorem dX6_get_22 : decode cX6_get 22 = .ok (.ireturn, 1) := by decide +kernel
theorem dX6_set_0 : decode cX6_set 0 = .ok (.iload_n 1, 1) := by decide +kernel
theorem dX6_set_1 : decode cX6_set 1 = .ok (.ifCond .lt 18, 3) := by decide +kernel
theorem dX6_set_4 : decode cX6_set 4 = .ok (.iload_n 1, 1) := by decide +kernel
theorem dX6_set_5 : decode cX6_set 5 = .ok (.aload_n 0, 1) := by decide +kernel
theorem dX6_set_6 : decode cX6_set 6 = .ok (.getfield 9, 3) := by decide +kernel
theorem dX6_set_9 : decode cX6_set 9 = .ok (.if_icmp .ge 10, 3) := by decide +kernel
theorem dX6_set_12 : decode cX6_set 12 = .ok (.aload_n 0, 1) := by decide +kernel
theorem dX6_set_13 : decode cX6_set 13 = .ok (.getfield 15, 3) := by decide +kernel
theorem dX6_set_16 : decode cX6_set 16 = .ok (.iload_n 1, 1) := by decide +kernel
theorem dX6_set_17 : decode cX6_set 17 = .ok (.iload_n 2, 1) := by decide +kernel
theorem dX6_set_18 : decode cX6_set 18 = .ok (.iastore, 1) := by decide +kernel
theorem dX6_set_19 : decode cX6_set 19 = .ok (.return_, 1) := by decide +kernel
theorem dX6_clear_0 : decode cX6_clear 0 = .ok (.aload_n 0, 1) := by decide +kernel
theorem dX6_clear_1 : decode cX6_clear 1 = .ok (.iconst 0, 1) := by decide +kernel
theorem dX6_clear_2 : decode cX6_clear 2 = .ok (.putfield 9, 3) := by decide +kernel
theorem dX6_clear_5 : decode cX6_clear 5 = .ok (.return_, 1) := by decide +kernel
theorem dX6_add_0 : decode cX6_add 0 = .ok (.aload_n 0, 1) := by decide +kernel
theorem dX6_add_1 : decode cX6_add 1 = .ok (.getfield 9, 3) := by decide +kernel
theorem dX6_add_4 : decode cX6_add 4 = .ok (.aload_n 0, 1) := by decide +kernel
theorem dX6_add_5 : decode cX6_add 5 = .ok (.getfield 15, 3) := by decide +kernel
theorem dX6_add_8 : decode cX6_add 8 = .ok (.arraylength, 1) := by decide +kernel
theorem dX6_add_9 : decode cX6_add 9 = .ok (.if_icmp .ge 23, 3) := by decide +kernel
theorem dX6_add_12 : decode cX6_add 12 = .ok (.aload_n 0, 1) := by decide +kernel
theorem dX6_add_13 : decode cX6_add 13 = .ok (.getfield 15, 3) := by decide +kernel
theorem dX6_add_16 : decode cX6_add 16 = .ok (.aload_n 0, 1) := by decide +kernel
theorem dX6_add_17 : decode cX6_add 17 = .ok (.getfield 9, 3) := by decide +kernel
theorem dX6_add_20 : decode cX6_add 20 = .ok (.iload_n 1, 1) := by decide +kernel
theorem dX6_add_21 : decode cX6_add 21 = .ok (.iastore, 1) := by decide +kernel
theorem dX6_add_22 : decode cX6_add 22 = .ok (.aload_n 0, 1) := by decide +kernel
theorem dX6_add_23 : decode cX6_add 23 = .ok (.dup, 1) := by decide +kernel
theorem dX6_add_24 : decode cX6_add 24 = .ok (.getfield 9, 3) := by decide +kernel
theorem dX6_add_27 : decode cX6_add 27 = .ok (.iconst 1, 1) := by decide +kernel
theorem dX6_add_28 : decode cX6_add 28 = .ok (.iadd, 1) := by decide +kernel
theorem dX6_add_29 : decode cX6_add 29 = .ok (.putfield 9, 3) := by decide +kernel
theorem dX6_add_32 : decode cX6_add 32 = .ok (.return_, 1) := by decide +kernel
theorem dX6_addAt_0 : decode cX6_addAt 0 = .ok (.iload_n 1, 1) := by decide +kernel
theorem dX6_addAt_1 : decode cX6_addAt 1 = .ok (.ifCond .lt 23, 3) := by decide +kernel
theorem dX6_addAt_4 : decode cX6_addAt 4 = .ok (.iload_n 1, 1) := by decide +kernel
theorem dX6_addAt_5 : decode cX6_addAt 5 = .ok (.aload_n 0, 1) := by decide +kernel
theorem dX6_addAt_6 : decode cX6_addAt 6 = .ok (.getfield 9, 3) := by decide +kernel
theorem dX6_addAt_9 : decode cX6_addAt 9 = .ok (.if_icmp .gt 15, 3) := by decide +kernel
theorem dX6_addAt_12 : decode cX6_addAt 12 = .ok (.aload_n 0, 1) := by decide +kernel
theorem dX6_addAt_13 : decode cX6_addAt 13 = .ok (.getfield 9, 3) := by decide +kernel
theorem dX6_addAt_16 : decode cX6_addAt 16 = .ok (.aload_n 0, 1) := by decide +kernel
theorem dX6_addAt_17 : decode cX6_addAt 17 = .ok (.getfield 15, 3) := by decide +kernel
theorem dX6_addAt_20 : decode cX6_addAt 20 = .ok (.arraylength, 1) := by decide +kernel
theorem dX6_addAt_21 : decode cX6_addAt 21 = .ok (.if_icmp .lt 4, 3) := by decide +kernel
theorem dX6_addAt_24 : decode cX6_addAt 24 = .ok (.return_, 1) := by decide +kernel
theorem dX6_addAt_25 : decode cX6_addAt 25 = .ok (.aload_n 0, 1) := by decide +kernel
theorem dX6_addAt_26 : decode cX6_addAt 26 = .ok (.iload_n 1, 1) := by decide +kernel
theorem dX6_addAt_27 : decode cX6_addAt 27 = .ok (.iload_n 1, 1) := by decide +kernel
theorem dX6_addAt_28 : decode cX6_addAt 28 = .ok (.iconst 1, 1) := by decide +kernel
theorem dX6_addAt_29 : decode cX6_addAt 29 = .ok (.iadd, 1) := by decide +kernel
theorem dX6_addAt_30 : decode cX6_addAt 30 = .ok (.invokevirtual 19, 3) := by decide +kernel
theorem dX6_addAt_33 : decode cX6_addAt 33 = .ok (.aload_n 0, 1) := by decide +kernel
theorem dX6_addAt_34 : decode cX6_addAt 34 = .ok (.getfield 15, 3) := by decide +kernel
theorem dX6_addAt_37 : decode cX6_addAt 37 = .ok (.iload_n 1, 1) := by decide +kernel
theorem dX6_addAt_38 : decode cX6_addAt 38 = .ok (.iload_n 2, 1) := by decide +kernel
theorem dX6_addAt_39 : decode cX6_addAt 39 = .ok (.iastore, 1) := by decide +kernel
theorem dX6_addAt_40 : decode cX6_addAt 40 = .ok (.return_, 1) := by decide +kernel
theorem dX6_removeFrom_0 : decode cX6_removeFrom 0 = .ok (.iload_n 1, 1) := by decide +kernel
theorem dX6_removeFrom_1 : decode cX6_removeFrom 1 = .ok (.ifCond .lt 25, 3) := by decide +kernel
theorem dX6_removeFrom_4 : decode cX6_removeFrom 4 = .ok (.iload_n 2, 1) := by decide +kernel
theorem dX6_removeFrom_5 : decode cX6_removeFrom 5 = .ok (.ifCond .lt 21, 3) := by decide +kernel
theorem dX6_removeFrom_8 : decode cX6_removeFrom 8 = .ok (.iload_n 2, 1) := by decide +kernel
theorem dX6_removeFrom_9 : decode cX6_removeFrom 9 = .ok (.aload_n 0, 1) := by decide +kernel
theorem dX6_removeFrom_10 : decode cX6_removeFrom 10 = .ok (.getfield 9, 3) := by decide +kernel
theorem dX6_removeFrom_13 : decode cX6_removeFrom 13 = .ok (.iload_n 1, 1) := by decide +kernel
theorem dX6_removeFrom_14 : decode cX6_removeFrom 14 = .ok (.isub, 1) := by decide +kernel
theorem dX6_removeFrom_15 : decode cX6_removeFrom 15 = .ok (.if_icmp .gt 11, 3) := by decide +kernel
theorem dX6_removeFrom_18 : decode cX6_removeFrom 18 = .ok (.aload_n 0, 1) := by decide +kernel
theorem dX6_removeFrom_19 : decode cX6_removeFrom 19 = .ok (.iload_n 1, 1) := by decide +kernel
theorem dX6_removeFrom_20 : decode cX6_removeFrom 20 = .ok (.iload_n 2, 1) := by decide +kernel
theorem dX6_removeFrom_21 : decode cX6_removeFrom 21 = .ok (.iadd, 1) := by decide +kernel
theorem dX6_removeFrom_22 : decode cX6_removeFrom 22 = .ok (.iload_n 1, 1) := by decide +kernel
theorem dX6_removeFrom_23 : decode cX6_removeFrom 23 = .ok (.invokevirtual 19, 3) := by decide +kernel
theorem dX6_removeFrom_26 : decode cX6_removeFrom 26 = .ok (.return_, 1) := by decide +kernel
theorem dX6_take_0 : decode cX6_take 0 = .ok (.aload_n 0, 1) := by decide +kernel
theorem dX6_take_1 : decode cX6_take 1 = .ok (.invokevirtual 23, 3) := by decide +kernel
theorem dX6_take_4 : decode cX6_take 4 = .ok (.iconst 0, 1) := by decide +kernel
theorem dX6_take_5 : decode cX6_take 5 = .ok (.istore_n 2, 1) := by decide +kernel
theorem dX6_take_6 : decode cX6_take 6 = .ok (.iload_n 2, 1) := by decide +kernel
theorem dX6_take_7 : decode cX6_take 7 = .ok (.aload_n 1, 1) := by decide +kernel
theorem dX6_take_8 : decode cX6_take 8 = .ok (.getfield 9, 3) := by decide +kernel
theorem dX6_take_11 : decode cX6_take 11 = .ok (.if_icmp .ge 19, 3) := by decide +kernel
theorem dX6_take_14 : decode cX6_take 14 = .ok (.aload_n 0, 1) := by decide +kernel
theorem dX6_take_15 : decode cX6_take 15 = .ok (.aload_n 1, 1) := by decide +kernel
theorem dX6_take_16 : decode cX6_take 16 = .ok (.getfield 15, 3) := by decide +kernel
theorem dX6_take_19 : decode cX6_take 19 = .ok (.iload_n 2, 1) := by decide +kernel
theorem dX6_take_20 : decode cX6_take 20 = .ok (.iaload, 1) := by decide +kernel
theorem dX6_take_21 : decode cX6_take 21 = .ok (.invokevirtual 26, 3) := by decide +kernel
theorem dX6_take_24 : decode cX6_take 24 = .ok (.iinc 2 1, 3) := by decide +kernel
theorem dX6_take_27 : decode cX6_take 27 = .ok (.goto (-21), 3) := by decide +kernel
theorem dX6_take_30 : decode cX6_take 30 = .ok (.return_, 1) := by decide +kernel
theorem dX6_howMany_0 : decode cX6_howMany 0 = .ok (.iconst 0, 1) := by decide +kernel
theorem dX6_howMany_1 : decode cX6_howMany 1 = .ok (.istore_n 2, 1) := by decide +kernel
theorem dX6_howMany_2 : decode cX6_howMany 2 = .ok (.iconst 0, 1) := by decide +kernel
theorem dX6_howMany_3 : decode cX6_howMany 3 = .ok (.istore_n 3, 1) := by decide +kernel
theorem dX6_howMany_4 : decode cX6_howMany 4 = .ok (.iload_n 3, 1) := by decide +kernel
theorem dX6_howMany_5 : decode cX6_howMany 5 = .ok (.aload_n 0, 1) := by decide +kernel
theorem dX6_howMany_6 : decode cX6_howMany 6 = .ok (.getfield 9, 3) := by decide +kernel
theorem dX6_howMany_9 : decode cX6_howMany 9 = .ok (.if_icmp .ge 22, 3) := by decide +kernel
theorem dX6_howMany_12 : decode cX6_howMany 12 = .ok (.aload_n 0, 1) := by decide +kernel
theorem dX6_howMany_13 : decode cX6_howMany 13 = .ok (.getfield 15, 3) := by decide +kernel
theorem dX6_howMany_16 : decode cX6_howMany 16 = .ok (.iload_n 3, 1) := by decide +kernel
theorem dX6_howMany_17 : decode cX6_howMany 17 = .ok (.iaload, 1) := by decide +kernel
theorem dX6_howMany_18 : decode cX6_howMany 18 = .ok (.iload_n 1, 1) := by decide +kernel
theorem dX6_howMany_19 : decode cX6_howMany 19 = .ok (.if_icmp .ne 6, 3) := by decide +kernel
theorem dX6_howMany_22 : decode cX6_howMany 22 = .ok (.iinc 2 1, 3) := by decide +kernel
theorem dX6_howMany_25 : decode cX6_howMany 25 = .ok (.iinc 3 1, 3) := by decide +kernel
theorem dX6_howMany_28 : decode cX6_howMany 28 = .ok (.goto (-24), 3) := by decide +kernel
theorem dX6_howMany_31 : decode cX6_howMany 31 = .ok (.iload_n 2, 1) := by decide +kernel
theorem dX6_howMany_32 : decode cX6_howMany 32 = .ok (.ireturn, 1) := by decide +kernel
theorem dX6_isPair_0 : decode cX6_isPair 0 = .ok (.aload_n 0, 1) := by decide +kernel
theorem dX6_isPair_1 : decode cX6_isPair 1 = .ok (.getfield 9, 3) := by decide +kernel
theorem dX6_isPair_4 : decode cX6_isPair 4 = .ok (.iconst 2, 1) := by decide +kernel
theorem dX6_isPair_5 : decode cX6_isPair 5 = .ok (.if_icmp .ne 27, 3) := by decide +kernel
theorem dX6_isPair_8 : decode cX6_isPair 8 = .ok (.aload_n 0, 1) := by decide +kernel
theorem dX6_isPair_9 : decode cX6_isPair 9 = .ok (.getfield 15, 3) := by decide +kernel
theorem dX6_isPair_12 : decode cX6_isPair 12 = .ok (.iconst 0, 1) := by decide +kernel
theorem dX6_isPair_13 : decode cX6_isPair 13 = .ok (.iaload, 1) := by decide +kernel
theorem dX6_isPair_14 : decode cX6_isPair 14 = .ok (.iload_n 1, 1) := by decide +kernel
theorem dX6_isPair_15 : decode cX6_isPair 15 = .ok (.if_icmp .ne 17, 3) := by decide +kernel
theorem dX6_isPair_18 : decode cX6_isPair 18 = .ok (.aload_n 0, 1) := by decide +kernel
theorem dX6_isPair_19 : decode cX6_isPair 19 = .ok (.getfield 15, 3) := by decide +kernel
theorem dX6_isPair_22 : decode cX6_isPair 22 = .ok (.iconst 1, 1) := by decide +kernel
theorem dX6_isPair_23 : decode cX6_isPair 23 = .ok (.iaload, 1) := by decide +kernel
theorem dX6_isPair_24 : decode cX6_isPair 24 = .ok (.iload_n 2, 1) := by decide +kernel
theorem dX6_isPair_25 : decode cX6_isPair 25 = .ok (.if_icmp .ne 7, 3) := by decide +kernel
theorem dX6_isPair_28 : decode cX6_isPair 28 = .ok (.iconst 1, 1) := by decide +kernel
theorem dX6_isPair_29 : decode cX6_isPair 29 = .ok (.goto 4, 3) := by decide +kernel
theorem dX6_isPair_32 : decode cX6_isPair 32 = .ok (.iconst 0, 1) := by decide +kernel
theorem dX6_isPair_33 : decode cX6_isPair 33 = .ok (.ireturn, 1) := by decide +kernel
theorem dX6_joinPairs_0 : decode cX6_joinPairs 0 = .ok (.iconst 0, 1) := by decide +kernel
theorem dX6_joinPairs_1 : decode cX6_joinPairs 1 = .ok (.istore 4, 2) := by decide +kernel
theorem dX6_joinPairs_3 : decode cX6_joinPairs 3 = .ok (.iconst 0, 1) := by decide +kernel
theorem dX6_joinPairs_4 : decode cX6_joinPairs 4 = .ok (.istore 5, 2) := by decide +kernel
theorem dX6_joinPairs_6 : decode cX6_joinPairs 6 = .ok (.iload 5, 2) := by decide +kernel
theorem dX6_joinPairs_8 : decode cX6_joinPairs 8 = .ok (.aload_n 0, 1) := by decide +kernel
theorem dX6_joinPairs_9 : decode cX6_joinPairs 9 = .ok (.getfield 9, 3) := by decide +kernel
theorem dX6_joinPairs_12 : decode cX6_joinPairs 12 = .ok (.if_icmp .ge 89, 3) := by decide +kernel
theorem dX6_joinPairs_15 : decode cX6_joinPairs 15 = .ok (.iload 5, 2) := by decide +kernel
theorem dX6_joinPairs_17 : decode cX6_joinPairs 17 = .ok (.iconst 1, 1) := by decide +kernel
theorem dX6_joinPairs_18 : decode cX6_joinPairs 18 = .ok (.iadd, 1) := by decide +kernel
theorem dX6_joinPairs_19 : decode cX6_joinPairs 19 = .ok (.aload_n 0, 1) := by decide +kernel
theorem dX6_joinPairs_20 : decode cX6_joinPairs 20 = .ok (.getfield 9, 3) := by decide +kernel
theorem dX6_joinPairs_23 : decode cX6_joinPairs 23 = .ok (.if_icmp .ge 31, 3) := by decide +kernel
theorem dX6_joinPairs_26 : decode cX6_joinPairs 26 = .ok (.aload_n 0, 1) := by decide +kernel
theorem dX6_joinPairs_27 : decode cX6_joinPairs 27 = .ok (.getfield 15, 3) := by decide +kernel
theorem dX6_joinPairs_30 : decode cX6_joinPairs 30 = .ok (.iload 5, 2) := by decide +kernel
theorem dX6_joinPairs_32 : decode cX6_joinPairs 32 = .ok (.iaload, 1) := by decide +kernel
theorem dX6_joinPairs_33 : decode cX6_joinPairs 33 = .ok (.iload_n 1, 1) := by decide +kernel
theorem dX6_joinPairs_34 : decode cX6_joinPairs 34 = .ok (.if_icmp .ne 20, 3) := by decide +kernel
theorem dX6_joinPairs_37 : decode cX6_joinPairs 37 = .ok (.aload_n 0, 1) := by decide +kernel
theorem dX6_joinPairs_38 : decode cX6_joinPairs 38 = .ok (.getfield 15, 3) := by decide +kernel
theorem dX6_joinPairs_41 : decode cX6_joinPairs 41 = .ok (.iload 5, 2) := by decide +kernel
theorem dX6_joinPairs_43 : decode cX6_joinPairs 43 = .ok (.iconst 1, 1) := by decide +kernel
theorem dX6_joinPairs_44 : decode cX6_joinPairs 44 = .ok (.iadd, 1) := by decide +kernel
theorem dX6_joinPairs_45 : decode cX6_joinPairs 45 = .ok (.iaload, 1) := by decide +kernel
theorem dX6_joinPairs_46 : decode cX6_joinPairs 46 = .ok (.iload_n 2, 1) := by decide +kernel
theorem dX6_joinPairs_47 : decode cX6_joinPairs 47 = .ok (.if_icmp .ne 7, 3) := by decide +kernel
theorem dX6_joinPairs_50 : decode cX6_joinPairs 50 = .ok (.iconst 1, 1) := by decide +kernel
theorem dX6_joinPairs_51 : decode cX6_joinPairs 51 = .ok (.goto 4, 3) := by decide +kernel
theorem dX6_joinPairs_54 : decode cX6_joinPairs 54 = .ok (.iconst 0, 1) := by decide +kernel
theorem dX6_joinPairs_55 : decode cX6_joinPairs 55 = .ok (.istore 6, 2) := by decide +kernel
theorem dX6_joinPairs_57 : decode cX6_joinPairs 57 = .ok (.aload_n 0, 1) := by decide +kernel
theorem dX6_joinPairs_58 : decode cX6_joinPairs 58 = .ok (.getfield 15, 3) := by decide +kernel
theorem dX6_joinPairs_61 : decode cX6_joinPairs 61 = .ok (.iload 4, 2) := by decide +kernel
theorem dX6_joinPairs_63 : decode cX6_joinPairs 63 = .ok (.iload 6, 2) := by decide +kernel
theorem dX6_joinPairs_65 : decode cX6_joinPairs 65 = .ok (.ifCond .eq 7, 3) := by decide +kernel
theorem dX6_joinPairs_68 : decode cX6_joinPairs 68 = .ok (.iload_n 3, 1) := by decide +kernel
theorem dX6_joinPairs_69 : decode cX6_joinPairs 69 = .ok (.goto 10, 3) := by decide +kernel
theorem dX6_joinPairs_72 : decode cX6_joinPairs 72 = .ok (.aload_n 0, 1) := by decide +kernel
theorem dX6_joinPairs_73 : decode cX6_joinPairs 73 = .ok (.getfield 15, 3) := by decide +kernel
theorem dX6_joinPairs_76 : decode cX6_joinPairs 76 = .ok (.iload 5, 2) := by decide +kernel
theorem dX6_joinPairs_78 : decode cX6_joinPairs 78 = .ok (.iaload, 1) := by decide +kernel
theorem dX6_joinPairs_79 : decode cX6_joinPairs 79 = .ok (.iastore, 1) := by decide +kernel
theorem dX6_joinPairs_80 : decode cX6_joinPairs 80 = .ok (.iinc 4 1, 3) := by decide +kernel
theorem dX6_joinPairs_83 : decode cX6_joinPairs 83 = .ok (.iload 5, 2) := by decide +kernel
theorem dX6_joinPairs_85 : decode cX6_joinPairs 85 = .ok (.iload 6, 2) := by decide +kernel
theorem dX6_joinPairs_87 : decode cX6_joinPairs 87 = .ok (.ifCond .eq 7, 3) := by decide +kernel
theorem dX6_joinPairs_90 : decode cX6_joinPairs 90 = .ok (.iconst 2, 1) := by decide +kernel
theorem dX6_joinPairs_91 : decode cX6_joinPairs 91 = .ok (.goto 4, 3) := by decide +kernel
theorem dX6_joinPairs_94 : decode cX6_joinPairs 94 = .ok (.iconst 1, 1) := by decide +kernel
theorem dX6_joinPairs_95 : decode cX6_joinPairs 95 = .ok (.iadd, 1) := by decide +kernel
theorem dX6_joinPairs_96 : decode cX6_joinPairs 96 = .ok (.istore 5, 2) := by decide +kernel
theorem dX6_joinPairs_98 : decode cX6_joinPairs 98 = .ok (.goto (-92), 3) := by decide +kernel
theorem dX6_joinPairs_101 : decode cX6_joinPairs 101 = .ok (.aload_n 0, 1) := by decide +kernel
theorem dX6_joinPairs_102 : decode cX6_joinPairs 102 = .ok (.iload 4, 2) := by decide +kernel
theorem dX6_joinPairs_104 : decode cX6_joinPairs 104 = .ok (.putfield 9, 3) := by decide +kernel
theorem dX6_joinPairs_107 : decode cX6_joinPairs 107 = .ok (.return_, 1) := by decide +kernel
theorem dX6_spreadAll_0 : decode cX6_spreadAll 0 = .ok (.aload_n 0, 1) := by decide +kernel
theorem dX6_spreadAll_1 : decode cX6_spreadAll 1 = .ok (.getfield 9, 3) := by decide +kernel
theorem dX6_spreadAll_4 : decode cX6_spreadAll 4 = .ok (.iconst 1, 1) := by decide +kernel
theorem dX6_spreadAll_5 : decode cX6_spreadAll 5 = .ok (.isub, 1) := by decide +kernel
theorem dX6_spreadAll_6 : decode cX6_spreadAll 6 = .ok (.istore_n 3, 1) := by decide +kernel
theorem dX6_spreadAll_7 : decode cX6_spreadAll 7 = .ok (.iload_n 3, 1) := by decide +kernel
theorem dX6_spreadAll_8 : decode cX6_spreadAll 8 = .ok (.ifCond .lt 25, 3) := by decide +kernel
theorem dX6_spreadAll_11 : decode cX6_spreadAll 11 = .ok (.aload_n 0, 1) := by decide +kernel
theorem dX6_spreadAll_12 : decode cX6_spreadAll 12 = .ok (.getfield 15, 3) := by decide +kernel
theorem dX6_spreadAll_15 : decode cX6_spreadAll 15 = .ok (.iload_n 3, 1) := by decide +kernel
theorem dX6_spreadAll_16 : decode cX6_spreadAll 16 = .ok (.iaload, 1) := by decide +kernel
theorem dX6_spreadAll_17 : decode cX6_spreadAll 17 = .ok (.iload_n 1, 1) := by decide +kernel
theorem dX6_spreadAll_18 : decode cX6_spreadAll 18 = .ok (.if_icmp .ne 9, 3) := by decide +kernel
theorem dX6_spreadAll_21 : decode cX6_spreadAll 21 = .ok (.aload_n 0, 1) := by decide +kernel
theorem dX6_spreadAll_22 : decode cX6_spreadAll 22 = .ok (.iload_n 3, 1) := by decide +kernel
theorem dX6_spreadAll_23 : decode cX6_spreadAll 23 = .ok (.aload_n 2, 1) := by decide +kernel
theorem dX6_spreadAll_24 : decode cX6_spreadAll 24 = .ok (.invokevirtual 30, 3) := by decide +kernel
theorem dX6_spreadAll_27 : decode cX6_spreadAll 27 = .ok (.iinc 3 (-1), 3) := by decide +kernel
theorem dX6_spreadAll_30 : decode cX6_spreadAll 30 = .ok (.goto (-23), 3) := by decide +kernel
theorem dX6_spreadAll_33 : decode cX6_spreadAll 33 = .ok (.return_, 1) := by decide +kernel
theorem dX6_spreadAt_0 : decode cX6_spreadAt 0 = .ok (.iload_n 1, 1) := by decide +kernel
theorem dX6_spreadAt_1 : decode cX6_spreadAt 1 = .ok (.ifCond .lt 30, 3) := by decide +kernel
theorem dX6_spreadAt_4 : decode cX6_spreadAt 4 = .ok (.iload_n 1, 1) := by decide +kernel
theorem dX6_spreadAt_5 : decode cX6_spreadAt 5 = .ok (.aload_n 0, 1) := by decide +kernel
theorem dX6_spreadAt_6 : decode cX6_spreadAt 6 = .ok (.getfield 9, 3) := by decide +kernel
theorem dX6_spreadAt_9 : decode cX6_spreadAt 9 = .ok (.if_icmp .ge 22, 3) := by decide +kernel
theorem dX6_spreadAt_12 : decode cX6_spreadAt 12 = .ok (.aload_n 2, 1) := by decide +kernel
theorem dX6_spreadAt_13 : decode cX6_spreadAt 13 = .ok (.getfield 9, 3) := by decide +kernel
theorem dX6_spreadAt_16 : decode cX6_spreadAt 16 = .ok (.aload_n 0, 1) := by decide +kernel
theorem dX6_spreadAt_17 : decode cX6_spreadAt 17 = .ok (.getfield 15, 3) := by decide +kernel
theorem dX6_spreadAt_20 : decode cX6_spreadAt 20 = .ok (.arraylength, 1) := by decide +kernel
theorem dX6_spreadAt_21 : decode cX6_spreadAt 21 = .ok (.aload_n 0, 1) := by decide +kernel
theorem dX6_spreadAt_22 : decode cX6_spreadAt 22 = .ok (.getfield 9, 3) := by decide +kernel
theorem dX6_spreadAt_25 : decode cX6_spreadAt 25 = .ok (.isub, 1) := by decide +kernel
theorem dX6_spreadAt_26 : decode cX6_spreadAt 26 = .ok (.iconst 1, 1) := by decide +kernel
theorem dX6_spreadAt_27 : decode cX6_spreadAt 27 = .ok (.iadd, 1) := by decide +kernel
theorem dX6_spreadAt_28 : decode cX6_spreadAt 28 = .ok (.if_icmp .le 4, 3) := by decide +kernel
theorem dX6_spreadAt_31 : decode cX6_spreadAt 31 = .ok (.return_, 1) := by decide +kernel
theorem dX6_spreadAt_32 : decode cX6_spreadAt 32 = .ok (.aload_n 0, 1) := by decide +kernel
theorem dX6_spreadAt_33 : decode cX6_spreadAt 33 = .ok (.iload_n 1, 1) := by decide +kernel
theorem dX6_spreadAt_34 : decode cX6_spreadAt 34 = .ok (.iconst 1, 1) := by decide +kernel
theorem dX6_spreadAt_35 : decode cX6_spreadAt 35 = .ok (.iadd, 1) := by decide +kernel
theorem dX6_spreadAt_36 : decode cX6_spreadAt 36 = .ok (.iload_n 1, 1) := by decide +kernel
theorem dX6_spreadAt_37 : decode cX6_spreadAt 37 = .ok (.aload_n 2, 1) := by decide +kernel
theorem dX6_spreadAt_38 : decode cX6_spreadAt 38 = .ok (.getfield 9, 3) := by decide +kernel
theorem dX6_spreadAt_41 : decode cX6_spreadAt 41 = .ok (.iadd, 1) := by decide +kernel
theorem dX6_spreadAt_42 : decode cX6_spreadAt 42 = .ok (.invokevirtual 19, 3) := by decide +kernel
theorem dX6_spreadAt_45 : decode cX6_spreadAt 45 = .ok (.iconst 0, 1) := by decide +kernel
theorem dX6_spreadAt_46 : decode cX6_spreadAt 46 = .ok (.istore_n 3, 1) := by decide +kernel
theorem dX6_spreadAt_47 : decode cX6_spreadAt 47 = .ok (.iload_n 3, 1) := by decide +kernel
theorem dX6_spreadAt_48 : decode cX6_spreadAt 48 = .ok (.aload_n 2, 1) := by decide +kernel
theorem dX6_spreadAt_49 : decode cX6_spreadAt 49 = .ok (.getfield 9, 3) := by decide +kernel
theorem dX6_spreadAt_52 : decode cX6_spreadAt 52 = .ok (.if_icmp .ge 23, 3) := by decide +kernel
theorem dX6_spreadAt_55 : decode cX6_spreadAt 55 = .ok (.aload_n 0, 1) := by decide +kernel
theorem dX6_spreadAt_56 : decode cX6_spreadAt 56 = .ok (.getfield 15, 3) := by decide +kernel
theorem dX6_spreadAt_59 : decode cX6_spreadAt 59 = .ok (.iload_n 1, 1) := by decide +kernel
theorem dX6_spreadAt_60 : decode cX6_spreadAt 60 = .ok (.iload_n 3, 1) := by decide +kernel
theorem dX6_spreadAt_61 : decode cX6_spreadAt 61 = .ok (.iadd, 1) := by decide +kernel
theorem dX6_spreadAt_62 : decode cX6_spreadAt 62 = .ok (.aload_n 2, 1) := by decide +kernel
theorem dX6_spreadAt_63 : decode cX6_spreadAt 63 = .ok (.getfield 15, 3) := by decide +kernel
theorem dX6_spreadAt_66 : decode cX6_spreadAt 66 = .ok (.iload_n 3, 1) := by decide +kernel
theorem dX6_spreadAt_67 : decode cX6_spreadAt 67 = .ok (.iaload, 1) := by decide +kernel
theorem dX6_spreadAt_68 : decode cX6_spreadAt 68 = .ok (.iastore, 1) := by decide +kernel
theorem dX6_spreadAt_69 : decode cX6_spreadAt 69 = .ok (.iinc 3 1, 3) := by decide +kernel
theorem dX6_spreadAt_72 : decode cX6_spreadAt 72 = .ok (.goto (-25), 3) := by decide +kernel
theorem dX6_spreadAt_75 : decode cX6_spreadAt 75 = .ok (.return_, 1) := by decide +kernel
theorem dX6_moveTail_0 : decode cX6_moveTail 0 = .ok (.iload_n 1, 1) := by decide +kernel
theorem dX6_moveTail_1 : decode cX6_moveTail 1 = .ok (.ifCond .lt 31, 3) := by decide +kernel
theorem dX6_moveTail_4 : decode cX6_moveTail 4 = .ok (.iload_n 1, 1) := by decide +kernel
theorem dX6_moveTail_5 : decode cX6_moveTail 5 = .ok (.aload_n 0, 1) := by decide +kernel
theorem dX6_moveTail_6 : decode cX6_moveTail 6 = .ok (.getfield 9, 3) := by decide +kernel
theorem dX6_moveTail_9 : decode cX6_moveTail 9 = .ok (.if_icmp .gt 23, 3) := by decide +kernel
theorem dX6_moveTail_12 : decode cX6_moveTail 12 = .ok (.iload_n 2, 1) := by decide +kernel
theorem dX6_moveTail_13 : decode cX6_moveTail 13 = .ok (.ifCond .lt 19, 3) := by decide +kernel
theorem dX6_moveTail_16 : decode cX6_moveTail 16 = .ok (.iload_n 2, 1) := by decide +kernel
theorem dX6_moveTail_17 : decode cX6_moveTail 17 = .ok (.aload_n 0, 1) := by decide +kernel
theorem dX6_moveTail_18 : decode cX6_moveTail 18 = .ok (.getfield 15, 3) := by decide +kernel
theorem dX6_moveTail_21 : decode cX6_moveTail 21 = .ok (.arraylength, 1) := by decide +kernel
theorem dX6_moveTail_22 : decode cX6_moveTail 22 = .ok (.aload_n 0, 1) := by decide +kernel
theorem dX6_moveTail_23 : decode cX6_moveTail 23 = .ok (.getfield 9, 3) := by decide +kernel
theorem dX6_moveTail_26 : decode cX6_moveTail 26 = .ok (.iload_n 1, 1) := by decide +kernel
theorem dX6_moveTail_27 : decode cX6_moveTail 27 = .ok (.isub, 1) := by decide +kernel
theorem dX6_moveTail_28 : decode cX6_moveTail 28 = .ok (.isub, 1) := by decide +kernel
theorem dX6_moveTail_29 : decode cX6_moveTail 29 = .ok (.if_icmp .le 4, 3) := by decide +kernel
theorem dX6_moveTail_32 : decode cX6_moveTail 32 = .ok (.return_, 1) := by decide +kernel
theorem dX6_moveTail_33 : decode cX6_moveTail 33 = .ok (.aload_n 0, 1) := by decide +kernel
theorem dX6_moveTail_34 : decode cX6_moveTail 34 = .ok (.getfield 15, 3) := by decide +kernel
theorem dX6_moveTail_37 : decode cX6_moveTail 37 = .ok (.iload_n 1, 1) := by decide +kernel
theorem dX6_moveTail_38 : decode cX6_moveTail 38 = .ok (.aload_n 0, 1) := by decide +kernel
theorem dX6_moveTail_39 : decode cX6_moveTail 39 = .ok (.getfield 15, 3) := by decide +kernel
theorem dX6_moveTail_42 : decode cX6_moveTail 42 = .ok (.iload_n 2, 1) := by decide +kernel
theorem dX6_moveTail_43 : decode cX6_moveTail 43 = .ok (.aload_n 0, 1) := by decide +kernel
theorem dX6_moveTail_44 : decode cX6_moveTail 44 = .ok (.getfield 9, 3) := by decide +kernel
theorem dX6_moveTail_47 : decode cX6_moveTail 47 = .ok (.iload_n 1, 1) := by decide +kernel
theorem dX6_moveTail_48 : decode cX6_moveTail 48 = .ok (.isub, 1) := by decide +kernel
theorem dX6_moveTail_49 : decode cX6_moveTail 49 = .ok (.invokestatic 34, 3) := by decide +kernel
theorem dX6_moveTail_52 : decode cX6_moveTail 52 = .ok (.aload_n 0, 1) := by decide +kernel
theorem dX6_moveTail_53 : decode cX6_moveTail 53 = .ok (.dup, 1) := by decide +kernel
theorem dX6_moveTail_54 : decode cX6_moveTail 54 = .ok (.getfield 9, 3) := by decide +kernel
theorem dX6_moveTail_57 : decode cX6_moveTail 57 = .ok (.iload_n 2, 1) := by decide +kernel
theorem dX6_moveTail_58 : decode cX6_moveTail 58 = .ok (.iload_n 1, 1) := by decide +kernel
theorem dX6_moveTail_59 : decode cX6_moveTail 59 = .ok (.isub, 1) := by decide +kernel
theorem dX6_moveTail_60 : decode cX6_moveTail 60 = .ok (.iadd, 1) := by decide +kernel
theorem dX6_moveTail_61 : decode cX6_moveTail 61 = .ok (.putfield 9, 3) := by decide +kernel
theorem dX6_moveTail_64 : decode cX6_moveTail 64 = .ok (.return_, 1) := by decide +kernel
theorem dX7_init_0 : decode cX7_init 0 = .ok (.aload_n 0, 1) := by decide +kernel
theorem dX7_init_1 : decode cX7_init 1 = .ok (.invokespecial 3, 3) := by decide +kernel
theorem dX7_init_4 : decode cX7_init 4 = .ok (.aload_n 0, 1) := by decide +kernel
theorem dX7_init_5 : decode cX7_init 5 = .ok (.new 9, 3) := by decide +kernel
theorem dX7_init_8 : decode cX7_init 8 = .ok (.dup, 1) := by decide +kernel
theorem dX7_init_9 : decode cX7_init 9 = .ok (.invokespecial 11, 3) := by decide +kernel
theorem dX7_init_12 : decode cX7_init 12 = .ok (.putfield 12, 3) := by decide +kernel
theorem dX7_init_15 : decode cX7_init 15 = .ok (.aload_n 0, 1) := by decide +kernel
theorem dX7_init_16 : decode cX7_init 16 = .ok (.new 9, 3) := by decide +kernel
theorem dX7_init_19 : decode cX7_init 19 = .ok (.dup, 1) := by decide +kernel
theorem dX7_init_20 : decode cX7_init 20 = .ok (.invokespecial 11, 3) := by decide +kernel
theorem dX7_init_23 : decode cX7_init 23 = .ok (.putfield 18, 3) := by decide +kernel
theorem dX7_init_26 : decode cX7_init 26 = .ok (.aload_n 0, 1) := by decide +kernel
theorem dX7_init_27 : decode cX7_init 27 = .ok (.sipush 7396, 3) := by decide +kernel
theorem dX7_init_30 : decode cX7_init 30 = .ok (.newarray .boolean, 2) := by decide +kernel
theorem dX7_init_32 : decode cX7_init 32 = .ok (.putfield 21, 3) := by decide +kernel
theorem dX7_init_35 : decode cX7_init 35 = .ok (.aload_n 0, 1) := by decide +kernel
theorem dX7_init_36 : decode cX7_init 36 = .ok (.new 25, 3) := by decide +kernel
theorem dX7_init_39 : decode cX7_init 39 = .ok (.dup, 1) := by decide +kernel
theorem dX7_init_40 : decode cX7_init 40 = .ok (.sipush 240, 3) := by decide +kernel
theorem dX7_init_43 : decode cX7_init 43 = .ok (.invokespecial 27, 3) := by decide +kernel
theorem dX7_init_46 : decode cX7_init 46 = .ok (.putfield 30, 3) := by decide +kernel
theorem dX7_init_49 : decode cX7_init 49 = .ok (.return_, 1) := by decide +kernel
theorem dX7_leastSize_0 : decode cX7_leastSize 0 = .ok (.aload_n 1, 1) := by decide +kernel
theorem dX7_leastSize_1 : decode cX7_leastSize 1 = .ok (.invokevirtual 34, 3) := by decide +kernel
theorem dX7_leastSize_4 : decode cX7_leastSize 4 = .ok (.istore_n 3, 1) := by decide +kernel
theorem dX7_leastSize_5 : decode cX7_leastSize 5 = .ok (.iload_n 2, 1) := by decide +kernel
theorem dX7_leastSize_6 : decode cX7_leastSize 6 = .ok (.iconst 1, 1) := by decide +kernel
theorem dX7_leastSize_7 : decode cX7_leastSize 7 = .ok (.if_icmp .ge 5, 3) := by decide +kernel
theorem dX7_leastSize_10 : decode cX7_leastSize 10 = .ok (.iload_n 3, 1) := by decide +kernel
theorem dX7_leastSize_11 : decode cX7_leastSize 11 = .ok (.ireturn, 1) := by decide +kernel
theorem dX7_leastSize_12 : decode cX7_leastSize 12 = .ok (.bipush 60, 2) := by decide +kernel
theorem dX7_leastSize_14 : decode cX7_leastSize 14 = .ok (.aload_n 1, 1) := by decide +kernel
theorem dX7_leastSize_15 : decode cX7_leastSize 15 = .ok (.invokevirtual 40, 3) := by decide +kernel
theorem dX7_leastSize_18 : decode cX7_leastSize 18 = .ok (.isub, 1) := by decide +kernel
theorem dX7_leastSize_19 : decode cX7_leastSize 19 = .ok (.istore 4, 2) := by decide +kernel
theorem dX7_leastSize_21 : decode cX7_leastSize 21 = .ok (.aload_n 0, 1) := by decide +kernel
theorem dX7_leastSize_22 : decode cX7_leastSize 22 = .ok (.aload_n 1, 1) := by decide +kernel
theorem dX7_leastSize_23 : decode cX7_leastSize 23 = .ok (.iconst 1, 1) := by decide +kernel
theorem dX7_leastSize_24 : decode cX7_leastSize 24 = .ok (.invokevirtual 43, 3) := by decide +kernel
theorem dX7_leastSize_27 : decode cX7_leastSize 27 = .ok (.aload_n 0, 1) := by decide +kernel
theorem dX7_leastSize_28 : decode cX7_leastSize 28 = .ok (.getfield 12, 3) := by decide +kernel
theorem dX7_leastSize_31 : decode cX7_leastSize 31 = .ok (.aload_n 1, 1) := by decide +kernel
theorem dX7_leastSize_32 : decode cX7_leastSize 32 = .ok (.invokevirtual 47, 3) := by decide +kernel
theorem dX7_leastSize_35 : decode cX7_leastSize 35 = .ok (.invokevirtual 51, 3) := by decide +kernel
theorem dX7_leastSize_38 : decode cX7_leastSize 38 = .ok (.iload_n 3, 1) := by decide +kernel
theorem dX7_leastSize_39 : decode cX7_leastSize 39 = .ok (.iload_n 3, 1) := by decide +kernel
theorem dX7_leastSize_40 : decode cX7_leastSize 40 = .ok (.aload_n 0, 1) := by decide +kernel
theorem dX7_leastSize_41 : decode cX7_leastSize 41 = .ok (.aload_n 0, 1) := by decide +kernel
theorem dX7_leastSize_42 : decode cX7_leastSize 42 = .ok (.getfield 12, 3) := by decide +kernel
theorem dX7_leastSize_45 : decode cX7_leastSize 45 = .ok (.iload 4, 2) := by decide +kernel
theorem dX7_leastSize_47 : decode cX7_leastSize 47 = .ok (.invokevirtual 55, 3) := by decide +kernel
theorem dX7_leastSize_50 : decode cX7_leastSize 50 = .ok (.isub, 1) := by decide +kernel
theorem dX7_leastSize_51 : decode cX7_leastSize 51 = .ok (.invokestatic 59, 3) := by decide +kernel
theorem dX7_leastSize_54 : decode cX7_leastSize 54 = .ok (.istore 5, 2) := by decide +kernel
theorem dX7_leastSize_56 : decode cX7_leastSize 56 = .ok (.iload_n 2, 1) := by decide +kernel
theorem dX7_leastSize_57 : decode cX7_leastSize 57 = .ok (.iconst 1, 1) := by decide +kernel
theorem dX7_leastSize_58 : decode cX7_leastSize 58 = .ok (.if_icmp .le 48, 3) := by decide +kernel
theorem dX7_leastSize_61 : decode cX7_leastSize 61 = .ok (.iconst 0, 1) := by decide +kernel
theorem dX7_leastSize_62 : decode cX7_leastSize 62 = .ok (.istore 6, 2) := by decide +kernel
theorem dX7_leastSize_64 : decode cX7_leastSize 64 = .ok (.iload 6, 2) := by decide +kernel
theorem dX7_leastSize_66 : decode cX7_leastSize 66 = .ok (.aload_n 0, 1) := by decide +kernel
theorem dX7_leastSize_67 : decode cX7_leastSize 67 = .ok (.getfield 12, 3) := by decide +kernel
theorem dX7_leastSize_70 : decode cX7_leastSize 70 = .ok (.invokevirtual 65, 3) := by decide +kernel
theorem dX7_leastSize_73 : decode cX7_leastSize 73 = .ok (.if_icmp .ge 33, 3) := by decide +kernel
theorem dX7_leastSize_76 : decode cX7_leastSize 76 = .ok (.iload 5, 2) := by decide +kernel
theorem dX7_leastSize_78 : decode cX7_leastSize 78 = .ok (.aload_n 0, 1) := by decide +kernel
theorem dX7_leastSize_79 : decode cX7_leastSize 79 = .ok (.aload_n 1, 1) := by decide +kernel
theorem dX7_leastSize_80 : decode cX7_leastSize 80 = .ok (.aload_n 0, 1) := by decide +kernel
theorem dX7_leastSize_81 : decode cX7_leastSize 81 = .ok (.getfield 12, 3) := by decide +kernel
theorem dX7_leastSize_84 : decode cX7_leastSize 84 = .ok (.iload 6, 2) := by decide +kernel
theorem dX7_leastSize_86 : decode cX7_leastSize 86 = .ok (.invokevirtual 68, 3) := by decide +kernel
theorem dX7_leastSize_89 : decode cX7_leastSize 89 = .ok (.iload_n 3, 1) := by decide +kernel
theorem dX7_leastSize_90 : decode cX7_leastSize 90 = .ok (.iload 4, 2) := by decide +kernel
theorem dX7_leastSize_92 : decode cX7_leastSize 92 = .ok (.invokevirtual 72, 3) := by decide +kernel
theorem dX7_leastSize_95 : decode cX7_leastSize 95 = .ok (.invokestatic 59, 3) := by decide +kernel
theorem dX7_leastSize_98 : decode cX7_leastSize 98 = .ok (.istore 5, 2) := by decide +kernel
theorem dX7_leastSize_100 : decode cX7_leastSize 100 = .ok (.iinc 6 1, 3) := by decide +kernel
theorem dX7_leastSize_103 : decode cX7_leastSize 103 = .ok (.goto (-39), 3) := by decide +kernel
theorem dX7_leastSize_106 : decode cX7_leastSize 106 = .ok (.aload_n 0, 1) := by decide +kernel
theorem dX7_leastSize_107 : decode cX7_leastSize 107 = .ok (.aload_n 1, 1) := by decide +kernel
theorem dX7_leastSize_108 : decode cX7_leastSize 108 = .ok (.iconst 0, 1) := by decide +kernel
theorem dX7_leastSize_109 : decode cX7_leastSize 109 = .ok (.invokevirtual 43, 3) := by decide +kernel
theorem dX7_leastSize_112 : decode cX7_leastSize 112 = .ok (.iload 5, 2) := by decide +kernel
theorem dX7_leastSize_114 : decode cX7_leastSize 114 = .ok (.ireturn, 1) := by decide +kernel
theorem dX7_markRules_0 : decode cX7_markRules 0 = .ok (.bipush 26, 2) := by decide +kernel
theorem dX7_markRules_2 : decode cX7_markRules 2 = .ok (.istore_n 3, 1) := by decide +kernel
theorem dX7_markRules_3 : decode cX7_markRules 3 = .ok (.iload_n 3, 1) := by decide +kernel
theorem dX7_markRules_4 : decode cX7_markRules 4 = .ok (.bipush 86, 2) := by decide +kernel
theorem dX7_markRules_6 : decode cX7_markRules 6 = .ok (.if_icmp .ge 65, 3) := by decide +kernel
theorem dX7_markRules_9 : decode cX7_markRules 9 = .ok (.aload_n 1, 1) := by decide +kernel
theorem dX7_markRules_10 : decode cX7_markRules 10 = .ok (.iload_n 3, 1) := by decide +kernel
theorem dX7_markRules_11 : decode cX7_markRules 11 = .ok (.invokevirtual 76, 3) := by decide +kernel
theorem dX7_markRules_14 : decode cX7_markRules 14 = .ok (.astore 4, 2) := by decide +kernel
theorem dX7_markRules_16 : decode cX7_markRules 16 = .ok (.aload 4, 2) := by decide +kernel
theorem dX7_markRules_18 : decode cX7_markRules 18 = .ok (.invokevirtual 80, 3) := by decide +kernel
theorem dX7_markRules_21 : decode cX7_markRules 21 = .ok (.iconst 2, 1) := by decide +kernel
theorem dX7_markRules_22 : decode cX7_markRules 22 = .ok (.if_icmp .ne 43, 3) := by decide +kernel
theorem dX7_markRules_25 : decode cX7_markRules 25 = .ok (.aload 4, 2) := by decide +kernel
theorem dX7_markRules_27 : decode cX7_markRules 27 = .ok (.iconst 0, 1) := by decide +kernel
theorem dX7_markRules_28 : decode cX7_markRules 28 = .ok (.invokevirtual 81, 3) := by decide +kernel
theorem dX7_markRules_31 : decode cX7_markRules 31 = .ok (.aload 4, 2) := by decide +kernel
theorem dX7_markRules_33 : decode cX7_markRules 33 = .ok (.iconst 1, 1) := by decide +kernel
theorem dX7_markRules_34 : decode cX7_markRules 34 = .ok (.invokevirtual 81, 3) := by decide +kernel
theorem dX7_markRules_37 : decode cX7_markRules 37 = .ok (.invokestatic 84, 3) := by decide +kernel
theorem dX7_markRules_40 : decode cX7_markRules 40 = .ok (.istore 5, 2) := by decide +kernel
theorem dX7_markRules_42 : decode cX7_markRules 42 = .ok (.iload 5, 2) := by decide +kernel
theorem dX7_markRules_44 : decode cX7_markRules 44 = .ok (.ifCond .lt 21, 3) := by decide +kernel
theorem dX7_markRules_47 : decode cX7_markRules 47 = .ok (.iload 5, 2) := by decide +kernel
theorem dX7_markRules_49 : decode cX7_markRules 49 = .ok (.aload_n 0, 1) := by decide +kernel
theorem dX7_markRules_50 : decode cX7_markRules 50 = .ok (.getfield 21, 3) := by decide +kernel
theorem dX7_markRules_53 : decode cX7_markRules 53 = .ok (.arraylength, 1) := by decide +kernel
theorem dX7_markRules_54 : decode cX7_markRules 54 = .ok (.if_icmp .ge 11, 3) := by decide +kernel
theorem dX7_markRules_57 : decode cX7_markRules 57 = .ok (.aload_n 0, 1) := by decide +kernel
theorem dX7_markRules_58 : decode cX7_markRules 58 = .ok (.getfield 21, 3) := by decide +kernel
theorem dX7_markRules_61 : decode cX7_markRules 61 = .ok (.iload 5, 2) := by decide +kernel
theorem dX7_markRules_63 : decode cX7_markRules 63 = .ok (.iload_n 2, 1) := by decide +kernel
theorem dX7_markRules_64 : decode cX7_markRules 64 = .ok (.bastore, 1) := by decide +kernel
theorem dX7_markRules_65 : decode cX7_markRules 65 = .ok (.iinc 3 1, 3) := by decide +kernel
theorem dX7_markRules_68 : decode cX7_markRules 68 = .ok (.goto (-65), 3) := by decide +kernel
theorem dX7_markRules_71 : decode cX7_markRules 71 = .ok (.return_, 1) := by decide +kernel
theorem dX7_isRuled_0 : decode cX7_isRuled 0 = .ok (.iload_n 1, 1) := by decide +kernel
theorem dX7_isRuled_1 : decode cX7_isRuled 1 = .ok (.ifCond .lt 25, 3) := by decide +kernel
theorem dX7_isRuled_4 : decode cX7_isRuled 4 = .ok (.iload_n 1, 1) := by decide +kernel
theorem dX7_isRuled_5 : decode cX7_isRuled 5 = .ok (.aload_n 0, 1) := by decide +kernel
theorem dX7_isRuled_6 : decode cX7_isRuled 6 = .ok (.getfield 21, 3) := by decide +kernel
theorem dX7_isRuled_9 : decode cX7_isRuled 9 = .ok (.arraylength, 1) := by decide +kernel
theorem dX7_isRuled_10 : decode cX7_isRuled 10 = .ok (.if_icmp .ge 16, 3) := by decide +kernel
theorem dX7_isRuled_13 : decode cX7_isRuled 13 = .ok (.aload_n 0, 1) := by decide +kernel
theorem dX7_isRuled_14 : decode cX7_isRuled 14 = .ok (.getfield 21, 3) := by decide +kernel
theorem dX7_isRuled_17 : decode cX7_isRuled 17 = .ok (.iload_n 1, 1) := by decide +kernel
theorem dX7_isRuled_18 : decode cX7_isRuled 18 = .ok (.baload, 1) := by decide +kernel
theorem dX7_isRuled_19 : decode cX7_isRuled 19 = .ok (.ifCond .eq 7, 3) := by decide +kernel
theorem dX7_isRuled_22 : decode cX7_isRuled 22 = .ok (.iconst 1, 1) := by decide +kernel
theorem dX7_isRuled_23 : decode cX7_isRuled 23 = .ok (.goto 4, 3) := by decide +kernel
theorem dX7_isRuled_26 : decode cX7_isRuled 26 = .ok (.iconst 0, 1) := by decide +kernel
theorem dX7_isRuled_27 : decode cX7_isRuled 27 = .ok (.ireturn, 1) := by decide +kernel
theorem dX7_gainOf_0 : decode cX7_gainOf 0 = .ok (.aload_n 1, 1) := by decide +kernel
theorem dX7_gainOf_1 : decode cX7_gainOf 1 = .ok (.iload_n 2, 1) := by decide +kernel
theorem dX7_gainOf_2 : decode cX7_gainOf 2 = .ok (.invokevirtual 87, 3) := by decide +kernel
theorem dX7_gainOf_5 : decode cX7_gainOf 5 = .ok (.istore_n 3, 1) := by decide +kernel
theorem dX7_gainOf_6 : decode cX7_gainOf 6 = .ok (.aload_n 0, 1) := by decide +kernel
theorem dX7_gainOf_7 : decode cX7_gainOf 7 = .ok (.iload_n 2, 1) := by decide +kernel
theorem dX7_gainOf_8 : decode cX7_gainOf 8 = .ok (.invokevirtual 90, 3) := by decide +kernel
theorem dX7_gainOf_11 : decode cX7_gainOf 11 = .ok (.ifCond .eq 7, 3) := by decide +kernel
theorem dX7_gainOf_14 : decode cX7_gainOf 14 = .ok (.iload_n 3, 1) := by decide +kernel
theorem dX7_gainOf_15 : decode cX7_gainOf 15 = .ok (.goto 6, 3) := by decide +kernel
theorem dX7_gainOf_18 : decode cX7_gainOf 18 = .ok (.iload_n 3, 1) := by decide +kernel
theorem dX7_gainOf_19 : decode cX7_gainOf 19 = .ok (.iconst 2, 1) := by decide +kernel
theorem dX7_gainOf_20 : decode cX7_gainOf 20 = .ok (.isub, 1) := by decide +kernel
theorem dX7_gainOf_21 : decode cX7_gainOf 21 = .ok (.ireturn, 1) := by decide +kernel
theorem dX7_greatestGain_0 : decode cX7_greatestGain 0 = .ok (.iconst 0, 1) := by decide +kernel
theorem dX7_greatestGain_1 : decode cX7_greatestGain 1 = .ok (.istore_n 3, 1) := by decide +kernel
theorem dX7_greatestGain_2 : decode cX7_greatestGain 2 = .ok (.iconst 0, 1) := by decide +kernel
theorem dX7_greatestGain_3 : decode cX7_greatestGain 3 = .ok (.istore 4, 2) := by decide +kernel
theorem dX7_greatestGain_5 : decode cX7_greatestGain 5 = .ok (.iload 4, 2) := by decide +kernel
theorem dX7_greatestGain_7 : decode cX7_greatestGain 7 = .ok (.aload_n 1, 1) := by decide +kernel
theorem dX7_greatestGain_8 : decode cX7_greatestGain 8 = .ok (.invokevirtual 65, 3) := by decide +kernel
theorem dX7_greatestGain_11 : decode cX7_greatestGain 11 = .ok (.if_icmp .ge 42, 3) := by decide +kernel
theorem dX7_greatestGain_14 : decode cX7_greatestGain 14 = .ok (.aload_n 1, 1) := by decide +kernel
