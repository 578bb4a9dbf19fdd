theorem dJ7_fill_53178_0 : decode cJ7_fill_53178 0 = .ok (.iconst 0, 1) := by decide +kernel
theorem dJ7_fill_53178_1 : decode cJ7_fill_53178 1 = .ok (.istore_n 2, 1) := by decide +kernel
theorem dJ7_fill_53178_2 : decode cJ7_fill_53178 2 = .ok (.aload_n 0, 1) := by decide +kernel
theorem dJ7_fill_53178_3 : decode cJ7_fill_53178 3 = .ok (.arraylength, 1) := by decide +kernel
theorem dJ7_fill_53178_4 : decode cJ7_fill_53178 4 = .ok (.istore_n 3, 1) := by decide +kernel
theorem dJ7_fill_53178_5 : decode cJ7_fill_53178 5 = .ok (.iload_n 2, 1) := by decide +kernel
theorem dJ7_fill_53178_6 : decode cJ7_fill_53178 6 = .ok (.iload_n 3, 1) := by decide +kernel
theorem dJ7_fill_53178_7 : decode cJ7_fill_53178 7 = .ok (.if_icmp .ge 13, 3) := by decide +kernel
theorem dJ7_fill_53178_10 : decode cJ7_fill_53178 10 = .ok (.aload_n 0, 1) := by decide +kernel
theorem dJ7_fill_53178_11 : decode cJ7_fill_53178 11 = .ok (.iload_n 2, 1) := by decide +kernel
theorem dJ7_fill_53178_12 : decode cJ7_fill_53178 12 = .ok (.iload_n 1, 1) := by decide +kernel
theorem dJ7_fill_53178_13 : decode cJ7_fill_53178 13 = .ok (.iastore, 1) := by decide +kernel
theorem dJ7_fill_53178_14 : decode cJ7_fill_53178 14 = .ok (.iinc 2 1, 3) := by decide +kernel
theorem dJ7_fill_53178_17 : decode cJ7_fill_53178 17 = .ok (.goto (-12), 3) := by decide +kernel
theorem dJ7_fill_53178_20 : decode cJ7_fill_53178 20 = .ok (.return_, 1) := by decide +kernel
theorem dJ9_max_7cf53_0 : decode cJ9_max_7cf53 0 = .ok (.iload_n 0, 1) := by decide +kernel
theorem dJ9_max_7cf53_1 : decode cJ9_max_7cf53 1 = .ok (.iload_n 1, 1) := by decide +kernel
theorem dJ9_max_7cf53_2 : decode cJ9_max_7cf53 2 = .ok (.if_icmp .lt 7, 3) := by decide +kernel
theorem dJ9_max_7cf53_5 : decode cJ9_max_7cf53 5 = .ok (.iload_n 0, 1) := by decide +kernel
theorem dJ9_max_7cf53_6 : decode cJ9_max_7cf53 6 = .ok (.goto 4, 3) := by decide +kernel
theorem dJ9_max_7cf53_9 : decode cJ9_max_7cf53 9 = .ok (.iload_n 1, 1) := by decide +kernel
theorem dJ9_max_7cf53_10 : decode cJ9_max_7cf53 10 = .ok (.ireturn, 1) := by decide +kernel
theorem dJ9_min_7cf53_0 : decode cJ9_min_7cf53 0 = .ok (.iload_n 0, 1) := by decide +kernel
theorem dJ9_min_7cf53_1 : decode cJ9_min_7cf53 1 = .ok (.iload_n 1, 1) := by decide +kernel
theorem dJ9_min_7cf53_2 : decode cJ9_min_7cf53 2 = .ok (.if_icmp .gt 7, 3) := by decide +kernel
theorem dJ9_min_7cf53_5 : decode cJ9_min_7cf53 5 = .ok (.iload_n 0, 1) := by decide +kernel
theorem dJ9_min_7cf53_6 : decode cJ9_min_7cf53 6 = .ok (.goto 4, 3) := by decide +kernel
theorem dJ9_min_7cf53_9 : decode cJ9_min_7cf53 9 = .ok (.iload_n 1, 1) := by decide +kernel
theorem dJ9_min_7cf53_10 : decode cJ9_min_7cf53 10 = .ok (.ireturn, 1) := by decide +kernel
theorem dX0_init_0 : decode cX0_init 0 = .ok (.aload_n 0, 1) := by decide +kernel
theorem dX0_init_1 : decode cX0_init 1 = .ok (.invokespecial 5, 3) := by decide +kernel
theorem dX0_init_4 : decode cX0_init 4 = .ok (.aload_n 0, 1) := by decide +kernel
theorem dX0_init_5 : decode cX0_init 5 = .ok (.bipush 40, 2) := by decide +kernel
theorem dX0_init_7 : decode cX0_init 7 = .ok (.newarray .int, 2) := by decide +kernel
theorem dX0_init_9 : decode cX0_init 9 = .ok (.putfield 13, 3) := by decide +kernel
theorem dX0_init_12 : decode cX0_init 12 = .ok (.aload_n 0, 1) := by decide +kernel
theorem dX0_init_13 : decode cX0_init 13 = .ok (.iconst 5, 1) := by decide +kernel
theorem dX0_init_14 : decode cX0_init 14 = .ok (.bipush 40, 2) := by decide +kernel
theorem dX0_init_16 : decode cX0_init 16 = .ok (.multianewarray 17 2, 4) := by decide +kernel
theorem dX0_init_20 : decode cX0_init 20 = .ok (.putfield 19, 3) := by decide +kernel
theorem dX0_init_23 : decode cX0_init 23 = .ok (.aload_n 0, 1) := by decide +kernel
theorem dX0_init_24 : decode cX0_init 24 = .ok (.iconst 5, 1) := by decide +kernel
theorem dX0_init_25 : decode cX0_init 25 = .ok (.newarray .int, 2) := by decide +kernel
theorem dX0_init_27 : decode cX0_init 27 = .ok (.putfield 22, 3) := by decide +kernel
theorem dX0_init_30 : decode cX0_init 30 = .ok (.aload_n 0, 1) := by decide +kernel
theorem dX0_init_31 : decode cX0_init 31 = .ok (.iconst 5, 1) := by decide +kernel
theorem dX0_init_32 : decode cX0_init 32 = .ok (.iconst 0, 1) := by decide +kernel
theorem dX0_init_33 : decode cX0_init 33 = .ok (.multianewarray 17 2, 4) := by decide +kernel
theorem dX0_init_37 : decode cX0_init 37 = .ok (.putfield 25, 3) := by decide +kernel
theorem dX0_init_40 : decode cX0_init 40 = .ok (.aload_n 0, 1) := by decide +kernel
theorem dX0_init_41 : decode cX0_init 41 = .ok (.new 11, 3) := by decide +kernel
theorem dX0_init_44 : decode cX0_init 44 = .ok (.dup, 1) := by decide +kernel
theorem dX0_init_45 : decode cX0_init 45 = .ok (.invokespecial 28, 3) := by decide +kernel
theorem dX0_init_48 : decode cX0_init 48 = .ok (.putfield 29, 3) := by decide +kernel
theorem dX0_init_51 : decode cX0_init 51 = .ok (.return_, 1) := by decide +kernel
theorem dX0_size_0 : decode cX0_size 0 = .ok (.aload_n 0, 1) := by decide +kernel
theorem dX0_size_1 : decode cX0_size 1 = .ok (.getfield 33, 3) := by decide +kernel
theorem dX0_size_4 : decode cX0_size 4 = .ok (.ireturn, 1) := by decide +kernel
theorem dX0_has_0 : decode cX0_has 0 = .ok (.iload_n 1, 1) := by decide +kernel
theorem dX0_has_1 : decode cX0_has 1 = .ok (.iconst 0, 1) := by decide +kernel
theorem dX0_has_2 : decode cX0_has 2 = .ok (.aload_n 0, 1) := by decide +kernel
theorem dX0_has_3 : decode cX0_has 3 = .ok (.getfield 33, 3) := by decide +kernel
theorem dX0_has_6 : decode cX0_has 6 = .ok (.iconst 1, 1) := by decide +kernel
theorem dX0_has_7 : decode cX0_has 7 = .ok (.isub, 1) := by decide +kernel
theorem dX0_has_8 : decode cX0_has 8 = .ok (.invokestatic 37, 3) := by decide +kernel
theorem dX0_has_11 : decode cX0_has 11 = .ok (.ireturn, 1) := by decide +kernel
theorem dX0_lettersFed_0 : decode cX0_lettersFed 0 = .ok (.aload_n 0, 1) := by decide +kernel
theorem dX0_lettersFed_1 : decode cX0_lettersFed 1 = .ok (.getfield 41, 3) := by decide +kernel
theorem dX0_lettersFed_4 : decode cX0_lettersFed 4 = .ok (.ireturn, 1) := by decide +kernel
theorem dX0_takeLetters_0 : decode cX0_takeLetters 0 = .ok (.iload_n 1, 1) := by decide +kernel
theorem dX0_takeLetters_1 : decode cX0_takeLetters 1 = .ok (.invokestatic 44, 3) := by decide +kernel
theorem dX0_takeLetters_4 : decode cX0_takeLetters 4 = .ok (.istore_n 2, 1) := by decide +kernel
theorem dX0_takeLetters_5 : decode cX0_takeLetters 5 = .ok (.aload_n 0, 1) := by decide +kernel
theorem dX0_takeLetters_6 : decode cX0_takeLetters 6 = .ok (.getfield 41, 3) := by decide +kernel
theorem dX0_takeLetters_9 : decode cX0_takeLetters 9 = .ok (.iload_n 2, 1) := by decide +kernel
theorem dX0_takeLetters_10 : decode cX0_takeLetters 10 = .ok (.iadd, 1) := by decide +kernel
theorem dX0_takeLetters_11 : decode cX0_takeLetters 11 = .ok (.bipush 40, 2) := by decide +kernel
theorem dX0_takeLetters_13 : decode cX0_takeLetters 13 = .ok (.if_icmp .le 6, 3) := by decide +kernel
theorem dX0_takeLetters_16 : decode cX0_takeLetters 16 = .ok (.bipush (-2), 2) := by decide +kernel
theorem dX0_takeLetters_18 : decode cX0_takeLetters 18 = .ok (.ireturn, 1) := by decide +kernel
theorem dX0_takeLetters_19 : decode cX0_takeLetters 19 = .ok (.iconst 0, 1) := by decide +kernel
theorem dX0_takeLetters_20 : decode cX0_takeLetters 20 = .ok (.istore_n 3, 1) := by decide +kernel
theorem dX0_takeLetters_21 : decode cX0_takeLetters 21 = .ok (.iload_n 3, 1) := by decide +kernel
theorem dX0_takeLetters_22 : decode cX0_takeLetters 22 = .ok (.iload_n 2, 1) := by decide +kernel
theorem dX0_takeLetters_23 : decode cX0_takeLetters 23 = .ok (.if_icmp .ge 25, 3) := by decide +kernel
theorem dX0_takeLetters_26 : decode cX0_takeLetters 26 = .ok (.aload_n 0, 1) := by decide +kernel
theorem dX0_takeLetters_27 : decode cX0_takeLetters 27 = .ok (.getfield 13, 3) := by decide +kernel
theorem dX0_takeLetters_30 : decode cX0_takeLetters 30 = .ok (.aload_n 0, 1) := by decide +kernel
theorem dX0_takeLetters_31 : decode cX0_takeLetters 31 = .ok (.getfield 41, 3) := by decide +kernel
theorem dX0_takeLetters_34 : decode cX0_takeLetters 34 = .ok (.iload_n 3, 1) := by decide +kernel
theorem dX0_takeLetters_35 : decode cX0_takeLetters 35 = .ok (.iadd, 1) := by decide +kernel
theorem dX0_takeLetters_36 : decode cX0_takeLetters 36 = .ok (.iload_n 1, 1) := by decide +kernel
theorem dX0_takeLetters_37 : decode cX0_takeLetters 37 = .ok (.iload_n 3, 1) := by decide +kernel
theorem dX0_takeLetters_38 : decode cX0_takeLetters 38 = .ok (.invokestatic 48, 3) := by decide +kernel
theorem dX0_takeLetters_41 : decode cX0_takeLetters 41 = .ok (.iastore, 1) := by decide +kernel
theorem dX0_takeLetters_42 : decode cX0_takeLetters 42 = .ok (.iinc 3 1, 3) := by decide +kernel
theorem dX0_takeLetters_45 : decode cX0_takeLetters 45 = .ok (.goto (-24), 3) := by decide +kernel
theorem dX0_takeLetters_48 : decode cX0_takeLetters 48 = .ok (.aload_n 0, 1) := by decide +kernel
theorem dX0_takeLetters_49 : decode cX0_takeLetters 49 = .ok (.dup, 1) := by decide +kernel
theorem dX0_takeLetters_50 : decode cX0_takeLetters 50 = .ok (.getfield 41, 3) := by decide +kernel
theorem dX0_takeLetters_53 : decode cX0_takeLetters 53 = .ok (.iload_n 2, 1) := by decide +kernel
theorem dX0_takeLetters_54 : decode cX0_takeLetters 54 = .ok (.iadd, 1) := by decide +kernel
theorem dX0_takeLetters_55 : decode cX0_takeLetters 55 = .ok (.putfield 41, 3) := by decide +kernel
theorem dX0_takeLetters_58 : decode cX0_takeLetters 58 = .ok (.aload_n 0, 1) := by decide +kernel
theorem dX0_takeLetters_59 : decode cX0_takeLetters 59 = .ok (.getfield 41, 3) := by decide +kernel
theorem dX0_takeLetters_62 : decode cX0_takeLetters 62 = .ok (.ireturn, 1) := by decide +kernel
theorem dX0_lettersIn_0 : decode cX0_lettersIn 0 = .ok (.iconst 0, 1) := by decide +kernel
theorem dX0_lettersIn_1 : decode cX0_lettersIn 1 = .ok (.istore_n 1, 1) := by decide +kernel
theorem dX0_lettersIn_2 : decode cX0_lettersIn 2 = .ok (.iload_n 1, 1) := by decide +kernel
theorem dX0_lettersIn_3 : decode cX0_lettersIn 3 = .ok (.iconst 4, 1) := by decide +kernel
theorem dX0_lettersIn_4 : decode cX0_lettersIn 4 = .ok (.if_icmp .ge 17, 3) := by decide +kernel
theorem dX0_lettersIn_7 : decode cX0_lettersIn 7 = .ok (.iload_n 0, 1) := by decide +kernel
theorem dX0_lettersIn_8 : decode cX0_lettersIn 8 = .ok (.iload_n 1, 1) := by decide +kernel
theorem dX0_lettersIn_9 : decode cX0_lettersIn 9 = .ok (.invokestatic 48, 3) := by decide +kernel
theorem dX0_lettersIn_12 : decode cX0_lettersIn 12 = .ok (.ifCond .eq 9, 3) := by decide +kernel
theorem dX0_lettersIn_15 : decode cX0_lettersIn 15 = .ok (.iinc 1 1, 3) := by decide +kernel
theorem dX0_lettersIn_18 : decode cX0_lettersIn 18 = .ok (.goto (-16), 3) := by decide +kernel
theorem dX0_lettersIn_21 : decode cX0_lettersIn 21 = .ok (.iload_n 1, 1) := by decide +kernel
theorem dX0_lettersIn_22 : decode cX0_lettersIn 22 = .ok (.ireturn, 1) := by decide +kernel
theorem dX0_letterAt_0 : decode cX0_letterAt 0 = .ok (.iload_n 0, 1) := by decide +kernel
theorem dX0_letterAt_1 : decode cX0_letterAt 1 = .ok (.bipush 8, 2) := by decide +kernel
theorem dX0_letterAt_3 : decode cX0_letterAt 3 = .ok (.iload_n 1, 1) := by decide +kernel
theorem dX0_letterAt_4 : decode cX0_letterAt 4 = .ok (.imul, 1) := by decide +kernel
theorem dX0_letterAt_5 : decode cX0_letterAt 5 = .ok (.iushr, 1) := by decide +kernel
theorem dX0_letterAt_6 : decode cX0_letterAt 6 = .ok (.sipush 255, 3) := by decide +kernel
theorem dX0_letterAt_9 : decode cX0_letterAt 9 = .ok (.iand, 1) := by decide +kernel
theorem dX0_letterAt_10 : decode cX0_letterAt 10 = .ok (.ireturn, 1) := by decide +kernel
theorem dX0_dropLetters_0 : decode cX0_dropLetters 0 = .ok (.aload_n 0, 1) := by decide +kernel
theorem dX0_dropLetters_1 : decode cX0_dropLetters 1 = .ok (.getfield 41, 3) := by decide +kernel
theorem dX0_dropLetters_4 : decode cX0_dropLetters 4 = .ok (.istore_n 1, 1) := by decide +kernel
theorem dX0_dropLetters_5 : decode cX0_dropLetters 5 = .ok (.aload_n 0, 1) := by decide +kernel
theorem dX0_dropLetters_6 : decode cX0_dropLetters 6 = .ok (.getfield 13, 3) := by decide +kernel
theorem dX0_dropLetters_9 : decode cX0_dropLetters 9 = .ok (.iconst 0, 1) := by decide +kernel
theorem dX0_dropLetters_10 : decode cX0_dropLetters 10 = .ok (.invokestatic 52, 3) := by decide +kernel
theorem dX0_dropLetters_13 : decode cX0_dropLetters 13 = .ok (.aload_n 0, 1) := by decide +kernel
theorem dX0_dropLetters_14 : decode cX0_dropLetters 14 = .ok (.iconst 0, 1) := by decide +kernel
theorem dX0_dropLetters_15 : decode cX0_dropLetters 15 = .ok (.putfield 41, 3) := by decide +kernel
theorem dX0_dropLetters_18 : decode cX0_dropLetters 18 = .ok (.iload_n 1, 1) := by decide +kernel
theorem dX0_dropLetters_19 : decode cX0_dropLetters 19 = .ok (.ireturn, 1) := by decide +kernel
theorem dX0_enact_0 : decode cX0_enact 0 = .ok (.iload_n 1, 1) := by decide +kernel
theorem dX0_enact_1 : decode cX0_enact 1 = .ok (.invokestatic 58, 3) := by decide +kernel
theorem dX0_enact_4 : decode cX0_enact 4 = .ok (.ifCond .ne 5, 3) := by decide +kernel
theorem dX0_enact_7 : decode cX0_enact 7 = .ok (.iconst (-1), 1) := by decide +kernel
theorem dX0_enact_8 : decode cX0_enact 8 = .ok (.ireturn, 1) := by decide +kernel
theorem dX0_enact_9 : decode cX0_enact 9 = .ok (.aload_n 0, 1) := by decide +kernel
theorem dX0_enact_10 : decode cX0_enact 10 = .ok (.getfield 33, 3) := by decide +kernel
theorem dX0_enact_13 : decode cX0_enact 13 = .ok (.iconst 5, 1) := by decide +kernel
theorem dX0_enact_14 : decode cX0_enact 14 = .ok (.if_icmp .lt 6, 3) := by decide +kernel
theorem dX0_enact_17 : decode cX0_enact 17 = .ok (.bipush (-2), 2) := by decide +kernel
theorem dX0_enact_19 : decode cX0_enact 19 = .ok (.ireturn, 1) := by decide +kernel
theorem dX0_enact_20 : decode cX0_enact 20 = .ok (.aload_n 0, 1) := by decide +kernel
theorem dX0_enact_21 : decode cX0_enact 21 = .ok (.getfield 29, 3) := by decide +kernel
theorem dX0_enact_24 : decode cX0_enact 24 = .ok (.aload_n 0, 1) := by decide +kernel
theorem dX0_enact_25 : decode cX0_enact 25 = .ok (.getfield 13, 3) := by decide +kernel
theorem dX0_enact_28 : decode cX0_enact 28 = .ok (.invokevirtual 62, 3) := by decide +kernel
theorem dX0_enact_31 : decode cX0_enact 31 = .ok (.ldc 66, 2) := by decide +kernel
theorem dX0_enact_33 : decode cX0_enact 33 = .ok (.if_icmp .ne 6, 3) := by decide +kernel
theorem dX0_enact_36 : decode cX0_enact 36 = .ok (.bipush (-5), 2) := by decide +kernel
theorem dX0_enact_38 : decode cX0_enact 38 = .ok (.ireturn, 1) := by decide +kernel
theorem dX0_enact_39 : decode cX0_enact 39 = .ok (.aload_n 0, 1) := by decide +kernel
theorem dX0_enact_40 : decode cX0_enact 40 = .ok (.getfield 13, 3) := by decide +kernel
theorem dX0_enact_43 : decode cX0_enact 43 = .ok (.iconst 0, 1) := by decide +kernel
theorem dX0_enact_44 : decode cX0_enact 44 = .ok (.aload_n 0, 1) := by decide +kernel
theorem dX0_enact_45 : decode cX0_enact 45 = .ok (.getfield 19, 3) := by decide +kernel
theorem dX0_enact_48 : decode cX0_enact 48 = .ok (.aload_n 0, 1) := by decide +kernel
theorem dX0_enact_49 : decode cX0_enact 49 = .ok (.getfield 33, 3) := by decide +kernel
theorem dX0_enact_52 : decode cX0_enact 52 = .ok (.aaload, 1) := by decide +kernel
theorem dX0_enact_53 : decode cX0_enact 53 = .ok (.iconst 0, 1) := by decide +kernel
theorem dX0_enact_54 : decode cX0_enact 54 = .ok (.aload_n 0, 1) := by decide +kernel
theorem dX0_enact_55 : decode cX0_enact 55 = .ok (.getfield 13, 3) := by decide +kernel
theorem dX0_enact_58 : decode cX0_enact 58 = .ok (.arraylength, 1) := by decide +kernel
theorem dX0_enact_59 : decode cX0_enact 59 = .ok (.invokestatic 67, 3) := by decide +kernel
theorem dX0_enact_62 : decode cX0_enact 62 = .ok (.aload_n 0, 1) := by decide +kernel
theorem dX0_enact_63 : decode cX0_enact 63 = .ok (.getfield 22, 3) := by decide +kernel
theorem dX0_enact_66 : decode cX0_enact 66 = .ok (.aload_n 0, 1) := by decide +kernel
theorem dX0_enact_67 : decode cX0_enact 67 = .ok (.getfield 33, 3) := by decide +kernel
theorem dX0_enact_70 : decode cX0_enact 70 = .ok (.iload_n 1, 1) := by decide +kernel
theorem dX0_enact_71 : decode cX0_enact 71 = .ok (.iastore, 1) := by decide +kernel
theorem dX0_enact_72 : decode cX0_enact 72 = .ok (.aload_n 0, 1) := by decide +kernel
theorem dX0_enact_73 : decode cX0_enact 73 = .ok (.invokevirtual 73, 3) := by decide +kernel
theorem dX0_enact_76 : decode cX0_enact 76 = .ok (.pop, 1) := by decide +kernel
theorem dX0_enact_77 : decode cX0_enact 77 = .ok (.aload_n 0, 1) := by decide +kernel
theorem dX0_enact_78 : decode cX0_enact 78 = .ok (.dup, 1) := by decide +kernel
theorem dX0_enact_79 : decode cX0_enact 79 = .ok (.getfield 33, 3) := by decide +kernel
theorem dX0_enact_82 : decode cX0_enact 82 = .ok (.iconst 1, 1) := by decide +kernel
theorem dX0_enact_83 : decode cX0_enact 83 = .ok (.iadd, 1) := by decide +kernel
theorem dX0_enact_84 : decode cX0_enact 84 = .ok (.putfield 33, 3) := by decide +kernel
theorem dX0_enact_87 : decode cX0_enact 87 = .ok (.aload_n 0, 1) := by decide +kernel
theorem dX0_enact_88 : decode cX0_enact 88 = .ok (.getfield 33, 3) := by decide +kernel
theorem dX0_enact_91 : decode cX0_enact 91 = .ok (.iconst 1, 1) := by decide +kernel
theorem dX0_enact_92 : decode cX0_enact 92 = .ok (.isub, 1) := by decide +kernel
theorem dX0_enact_93 : decode cX0_enact 93 = .ok (.ireturn, 1) := by decide +kernel
theorem dX0_onDay_0 : decode cX0_onDay 0 = .ok (.bipush (-4), 2) := by decide +kernel
theorem dX0_onDay_2 : decode cX0_onDay 2 = .ok (.istore_n 2, 1) := by decide +kernel
theorem dX0_onDay_3 : decode cX0_onDay 3 = .ok (.iconst 0, 1) := by decide +kernel
theorem dX0_onDay_4 : decode cX0_onDay 4 = .ok (.istore_n 3, 1) := by decide +kernel
theorem dX0_onDay_5 : decode cX0_onDay 5 = .ok (.iload_n 3, 1) := by decide +kernel
theorem dX0_onDay_6 : decode cX0_onDay 6 = .ok (.aload_n 0, 1) := by decide +kernel
theorem dX0_onDay_7 : decode cX0_onDay 7 = .ok (.getfield 33, 3) := by decide +kernel
theorem dX0_onDay_10 : decode cX0_onDay 10 = .ok (.if_icmp .ge 40, 3) := by decide +kernel
theorem dX0_onDay_13 : decode cX0_onDay 13 = .ok (.aload_n 0, 1) := by decide +kernel
theorem dX0_onDay_14 : decode cX0_onDay 14 = .ok (.getfield 22, 3) := by decide +kernel
theorem dX0_onDay_17 : decode cX0_onDay 17 = .ok (.iload_n 3, 1) := by decide +kernel
theorem dX0_onDay_18 : decode cX0_onDay 18 = .ok (.iaload, 1) := by decide +kernel
theorem dX0_onDay_19 : decode cX0_onDay 19 = .ok (.iload_n 1, 1) := by decide +kernel
theorem dX0_onDay_20 : decode cX0_onDay 20 = .ok (.if_icmp .gt 24, 3) := by decide +kernel
theorem dX0_onDay_23 : decode cX0_onDay 23 = .ok (.iload_n 2, 1) := by decide +kernel
theorem dX0_onDay_24 : decode cX0_onDay 24 = .ok (.ifCond .lt 18, 3) := by decide +kernel
theorem dX0_onDay_27 : decode cX0_onDay 27 = .ok (.aload_n 0, 1) := by decide +kernel
theorem dX0_onDay_28 : decode cX0_onDay 28 = .ok (.getfield 22, 3) := by decide +kernel
theorem dX0_onDay_31 : decode cX0_onDay 31 = .ok (.iload_n 3, 1) := by decide +kernel
theorem dX0_onDay_32 : decode cX0_onDay 32 = .ok (.iaload, 1) := by decide +kernel
theorem dX0_onDay_33 : decode cX0_onDay 33 = .ok (.aload_n 0, 1) := by decide +kernel
theorem dX0_onDay_34 : decode cX0_onDay 34 = .ok (.getfield 22, 3) := by decide +kernel
theorem dX0_onDay_37 : decode cX0_onDay 37 = .ok (.iload_n 2, 1) := by decide +kernel
theorem dX0_onDay_38 : decode cX0_onDay 38 = .ok (.iaload, 1) := by decide +kernel
theorem dX0_onDay_39 : decode cX0_onDay 39 = .ok (.if_icmp .lt 5, 3) := by decide +kernel
theorem dX0_onDay_42 : decode cX0_onDay 42 = .ok (.iload_n 3, 1) := by decide +kernel
theorem dX0_onDay_43 : decode cX0_onDay 43 = .ok (.istore_n 2, 1) := by decide +kernel
theorem dX0_onDay_44 : decode cX0_onDay 44 = .ok (.iinc 3 1, 3) := by decide +kernel
theorem dX0_onDay_47 : decode cX0_onDay 47 = .ok (.goto (-42), 3) := by decide +kernel
theorem dX0_onDay_50 : decode cX0_onDay 50 = .ok (.iload_n 2, 1) := by decide +kernel
theorem dX0_onDay_51 : decode cX0_onDay 51 = .ok (.ireturn, 1) := by decide +kernel
theorem dX0_tonsBy_0 : decode cX0_tonsBy 0 = .ok (.aload_n 0, 1) := by decide +kernel
theorem dX0_tonsBy_1 : decode cX0_tonsBy 1 = .ok (.getfield 29, 3) := by decide +kernel
theorem dX0_tonsBy_4 : decode cX0_tonsBy 4 = .ok (.iload_n 2, 1) := by decide +kernel
theorem dX0_tonsBy_5 : decode cX0_tonsBy 5 = .ok (.iload_n 3, 1) := by decide +kernel
theorem dX0_tonsBy_6 : decode cX0_tonsBy 6 = .ok (.iload 4, 2) := by decide +kernel
theorem dX0_tonsBy_8 : decode cX0_tonsBy 8 = .ok (.iload 5, 2) := by decide +kernel
theorem dX0_tonsBy_10 : decode cX0_tonsBy 10 = .ok (.invokevirtual 77, 3) := by decide +kernel
theorem dX0_tonsBy_13 : decode cX0_tonsBy 13 = .ok (.aload_n 0, 1) := by decide +kernel
theorem dX0_tonsBy_14 : decode cX0_tonsBy 14 = .ok (.getfield 29, 3) := by decide +kernel
theorem dX0_tonsBy_17 : decode cX0_tonsBy 17 = .ok (.aload_n 0, 1) := by decide +kernel
theorem dX0_tonsBy_18 : decode cX0_tonsBy 18 = .ok (.getfield 19, 3) := by decide +kernel
theorem dX0_tonsBy_21 : decode cX0_tonsBy 21 = .ok (.iload_n 1, 1) := by decide +kernel
theorem dX0_tonsBy_22 : decode cX0_tonsBy 22 = .ok (.aaload, 1) := by decide +kernel
theorem dX0_tonsBy_23 : decode cX0_tonsBy 23 = .ok (.invokevirtual 62, 3) := by decide +kernel
theorem dX0_tonsBy_26 : decode cX0_tonsBy 26 = .ok (.ireturn, 1) := by decide +kernel
theorem dX0_ofLeastShape_0 : decode cX0_ofLeastShape 0 = .ok (.aload_n 0, 1) := by decide +kernel
theorem dX0_ofLeastShape_1 : decode cX0_ofLeastShape 1 = .ok (.iload_n 1, 1) := by decide +kernel
theorem dX0_ofLeastShape_2 : decode cX0_ofLeastShape 2 = .ok (.invokevirtual 81, 3) := by decide +kernel
theorem dX0_ofLeastShape_5 : decode cX0_ofLeastShape 5 = .ok (.astore 4, 2) := by decide +kernel
theorem dX0_ofLeastShape_7 : decode cX0_ofLeastShape 7 = .ok (.aload 4, 2) := by decide +kernel
theorem dX0_ofLeastShape_9 : decode cX0_ofLeastShape 9 = .ok (.iload_n 2, 1) := by decide +kernel
theorem dX0_ofLeastShape_10 : decode cX0_ofLeastShape 10 = .ok (.invokestatic 85, 3) := by decide +kernel
theorem dX0_ofLeastShape_13 : decode cX0_ofLeastShape 13 = .ok (.istore 5, 2) := by decide +kernel
theorem dX0_ofLeastShape_15 : decode cX0_ofLeastShape 15 = .ok (.iload_n 3, 1) := by decide +kernel
theorem dX0_ofLeastShape_16 : decode cX0_ofLeastShape 16 = .ok (.tableswitch 46 0 2 #[28, 34, 40], 28) := by decide +kernel
theorem dX0_ofLeastShape_44 : decode cX0_ofLeastShape 44 = .ok (.iload 5, 2) := by decide +kernel
theorem dX0_ofLeastShape_46 : decode cX0_ofLeastShape 46 = .ok (.invokestatic 89, 3) := by decide +kernel
theorem dX0_ofLeastShape_49 : decode cX0_ofLeastShape 49 = .ok (.ireturn, 1) := by decide +kernel
theorem dX0_ofLeastShape_50 : decode cX0_ofLeastShape 50 = .ok (.iload 5, 2) := by decide +kernel
theorem dX0_ofLeastShape_52 : decode cX0_ofLeastShape 52 = .ok (.invokestatic 92, 3) := by decide +kernel
theorem dX0_ofLeastShape_55 : decode cX0_ofLeastShape 55 = .ok (.ireturn, 1) := by decide +kernel
theorem dX0_ofLeastShape_56 : decode cX0_ofLeastShape 56 = .ok (.iload 5, 2) := by decide +kernel
theorem dX0_ofLeastShape_58 : decode cX0_ofLeastShape 58 = .ok (.invokestatic 95, 3) := by decide +kernel
theorem dX0_ofLeastShape_61 : decode cX0_ofLeastShape 61 = .ok (.ireturn, 1) := by decide +kernel
theorem dX0_ofLeastShape_62 : decode cX0_ofLeastShape 62 = .ok (.aload 4, 2) := by decide +kernel
theorem dX0_ofLeastShape_64 : decode cX0_ofLeastShape 64 = .ok (.iload 5, 2) := by decide +kernel
theorem dX0_ofLeastShape_66 : decode cX0_ofLeastShape 66 = .ok (.iaload, 1) := by decide +kernel
theorem dX0_ofLeastShape_67 : decode cX0_ofLeastShape 67 = .ok (.ireturn, 1) := by decide +kernel
theorem dX0_tonsOfShapes_0 : decode cX0_tonsOfShapes 0 = .ok (.aload_n 0, 1) := by decide +kernel
theorem dX0_tonsOfShapes_1 : decode cX0_tonsOfShapes 1 = .ok (.getfield 25, 3) := by decide +kernel
theorem dX0_tonsOfShapes_4 : decode cX0_tonsOfShapes 4 = .ok (.iload_n 1, 1) := by decide +kernel
theorem dX0_tonsOfShapes_5 : decode cX0_tonsOfShapes 5 = .ok (.aaload, 1) := by decide +kernel
theorem dX0_tonsOfShapes_6 : decode cX0_tonsOfShapes 6 = .ok (.arraylength, 1) := by decide +kernel
theorem dX0_tonsOfShapes_7 : decode cX0_tonsOfShapes 7 = .ok (.sipush 1728, 3) := by decide +kernel
theorem dX0_tonsOfShapes_10 : decode cX0_tonsOfShapes 10 = .ok (.if_icmp .ge 52, 3) := by decide +kernel
theorem dX0_tonsOfShapes_13 : decode cX0_tonsOfShapes 13 = .ok (.sipush 1728, 3) := by decide +kernel
theorem dX0_tonsOfShapes_16 : decode cX0_tonsOfShapes 16 = .ok (.newarray .int, 2) := by decide +kernel
theorem dX0_tonsOfShapes_18 : decode cX0_tonsOfShapes 18 = .ok (.astore_n 2, 1) := by decide +kernel
theorem dX0_tonsOfShapes_19 : decode cX0_tonsOfShapes 19 = .ok (.iconst 0, 1) := by decide +kernel
theorem dX0_tonsOfShapes_20 : decode cX0_tonsOfShapes 20 = .ok (.istore_n 3, 1) := by decide +kernel
theorem dX0_tonsOfShapes_21 : decode cX0_tonsOfShapes 21 = .ok (.iload_n 3, 1) := by decide +kernel
theorem dX0_tonsOfShapes_22 : decode cX0_tonsOfShapes 22 = .ok (.sipush 1728, 3) := by decide +kernel
theorem dX0_tonsOfShapes_25 : decode cX0_tonsOfShapes 25 = .ok (.if_icmp .ge 30, 3) := by decide +kernel
theorem dX0_tonsOfShapes_28 : decode cX0_tonsOfShapes 28 = .ok (.aload_n 2, 1) := by decide +kernel
theorem dX0_tonsOfShapes_29 : decode cX0_tonsOfShapes 29 = .ok (.iload_n 3, 1) := by decide +kernel
theorem dX0_tonsOfShapes_30 : decode cX0_tonsOfShapes 30 = .ok (.aload_n 0, 1) := by decide +kernel
theorem dX0_tonsOfShapes_31 : decode cX0_tonsOfShapes 31 = .ok (.iload_n 1, 1) := by decide +kernel
theorem dX0_tonsOfShapes_32 : decode cX0_tonsOfShapes 32 = .ok (.iload_n 3, 1) := by decide +kernel
theorem dX0_tonsOfShapes_33 : decode cX0_tonsOfShapes 33 = .ok (.invokestatic 89, 3) := by decide +kernel
theorem dX0_tonsOfShapes_36 : decode cX0_tonsOfShapes 36 = .ok (.iload_n 3, 1) := by decide +kernel
theorem dX0_tonsOfShapes_37 : decode cX0_tonsOfShapes 37 = .ok (.invokestatic 92, 3) := by decide +kernel
theorem dX0_tonsOfShapes_40 : decode cX0_tonsOfShapes 40 = .ok (.iload_n 3, 1) := by decide +kernel
theorem dX0_tonsOfShapes_41 : decode cX0_tonsOfShapes 41 = .ok (.invokestatic 95, 3) := by decide +kernel
theorem dX0_tonsOfShapes_44 : decode cX0_tonsOfShapes 44 = .ok (.iconst 0, 1) := by decide +kernel
theorem dX0_tonsOfShapes_45 : decode cX0_tonsOfShapes 45 = .ok (.invokevirtual 98, 3) := by decide +kernel
theorem dX0_tonsOfShapes_48 : decode cX0_tonsOfShapes 48 = .ok (.iastore, 1) := by decide +kernel
theorem dX0_tonsOfShapes_49 : decode cX0_tonsOfShapes 49 = .ok (.iinc 3 1, 3) := by decide +kernel
theorem dX0_tonsOfShapes_52 : decode cX0_tonsOfShapes 52 = .ok (.goto (-31), 3) := by decide +kernel
theorem dX0_tonsOfShapes_55 : decode cX0_tonsOfShapes 55 = .ok (.aload_n 0, 1) := by decide +kernel
theorem dX0_tonsOfShapes_56 : decode cX0_tonsOfShapes 56 = .ok (.getfield 25, 3) := by decide +kernel
theorem dX0_tonsOfShapes_59 : decode cX0_tonsOfShapes 59 = .ok (.iload_n 1, 1) := by decide +kernel
theorem dX0_tonsOfShapes_60 : decode cX0_tonsOfShapes 60 = .ok (.aload_n 2, 1) := by decide +kernel
theorem dX0_tonsOfShapes_61 : decode cX0_tonsOfShapes 61 = .ok (.aastore, 1) := by decide +kernel
theorem dX0_tonsOfShapes_62 : decode cX0_tonsOfShapes 62 = .ok (.aload_n 0, 1) := by decide +kernel
theorem dX0_tonsOfShapes_63 : decode cX0_tonsOfShapes 63 = .ok (.getfield 25, 3) := by decide +kernel
theorem dX0_tonsOfShapes_66 : decode cX0_tonsOfShapes 66 = .ok (.iload_n 1, 1) := by decide +kernel
theorem dX0_tonsOfShapes_67 : decode cX0_tonsOfShapes 67 = .ok (.aaload, 1) := by decide +kernel
theorem dX0_tonsOfShapes_68 : decode cX0_tonsOfShapes 68 = .ok (.areturn, 1) := by decide +kernel
theorem dX0_leastShape_0 : decode cX0_leastShape 0 = .ok (.sipush 1727, 3) := by decide +kernel
theorem dX0_leastShape_3 : decode cX0_leastShape 3 = .ok (.istore_n 2, 1) := by decide +kernel
theorem dX0_leastShape_4 : decode cX0_leastShape 4 = .ok (.iload_n 2, 1) := by decide +kernel
theorem dX0_leastShape_5 : decode cX0_leastShape 5 = .ok (.istore_n 3, 1) := by decide +kernel
theorem dX0_leastShape_6 : decode cX0_leastShape 6 = .ok (.iload_n 3, 1) := by decide +kernel
theorem dX0_leastShape_7 : decode cX0_leastShape 7 = .ok (.ifCond .lt 38, 3) := by decide +kernel
theorem dX0_leastShape_10 : decode cX0_leastShape 10 = .ok (.aload_n 0, 1) := by decide +kernel
theorem dX0_leastShape_11 : decode cX0_leastShape 11 = .ok (.iload_n 3, 1) := by decide +kernel
theorem dX0_leastShape_12 : decode cX0_leastShape 12 = .ok (.iaload, 1) := by decide +kernel
theorem dX0_leastShape_13 : decode cX0_leastShape 13 = .ok (.aload_n 0, 1) := by decide +kernel
theorem dX0_leastShape_14 : decode cX0_leastShape 14 = .ok (.iload_n 2, 1) := by decide +kernel
theorem dX0_leastShape_15 : decode cX0_leastShape 15 = .ok (.iaload, 1) := by decide +kernel
theorem dX0_leastShape_16 : decode cX0_leastShape 16 = .ok (.if_icmp .gt 23, 3) := by decide +kernel
theorem dX0_leastShape_19 : decode cX0_leastShape 19 = .ok (.iload_n 3, 1) := by decide +kernel
theorem dX0_leastShape_20 : decode cX0_leastShape 20 = .ok (.invokestatic 89, 3) := by decide +kernel
theorem dX0_leastShape_23 : decode cX0_leastShape 23 = .ok (.iload_n 3, 1) := by decide +kernel
theorem dX0_leastShape_24 : decode cX0_leastShape 24 = .ok (.invokestatic 92, 3) := by decide +kernel
theorem dX0_leastShape_27 : decode cX0_leastShape 27 = .ok (.imul, 1) := by decide +kernel
theorem dX0_leastShape_28 : decode cX0_leastShape 28 = .ok (.iload_n 3, 1) := by decide +kernel
theorem dX0_leastShape_29 : decode cX0_leastShape 29 = .ok (.invokestatic 95, 3) := by decide +kernel
theorem dX0_leastShape_32 : decode cX0_leastShape 32 = .ok (.imul, 1) := by decide +kernel
theorem dX0_leastShape_33 : decode cX0_leastShape 33 = .ok (.iload_n 1, 1) := by decide +kernel
theorem dX0_leastShape_34 : decode cX0_leastShape 34 = .ok (.if_icmp .lt 5, 3) := by decide +kernel
theorem dX0_leastShape_37 : decode cX0_leastShape 37 = .ok (.iload_n 3, 1) := by decide +kernel
theorem dX0_leastShape_38 : decode cX0_leastShape 38 = .ok (.istore_n 2, 1) := by decide +kernel
theorem dX0_leastShape_39 : decode cX0_leastShape 39 = .ok (.iinc 3 (-1), 3) := by decide +kernel
theorem dX0_leastShape_42 : decode cX0_leastShape 42 = .ok (.goto (-36), 3) := by decide +kernel
theorem dX0_leastShape_45 : decode cX0_leastShape 45 = .ok (.iload_n 2, 1) := by decide +kernel
theorem dX0_leastShape_46 : decode cX0_leastShape 46 = .ok (.ireturn, 1) := by decide +kernel
theorem dX0_lengthOf_0 : decode cX0_lengthOf 0 = .ok (.iload_n 0, 1) := by decide +kernel
theorem dX0_lengthOf_1 : decode cX0_lengthOf 1 = .ok (.sipush 144, 3) := by decide +kernel
theorem dX0_lengthOf_4 : decode cX0_lengthOf 4 = .ok (.idiv, 1) := by decide +kernel
theorem dX0_lengthOf_5 : decode cX0_lengthOf 5 = .ok (.iconst 1, 1) := by decide +kernel
theorem dX0_lengthOf_6 : decode cX0_lengthOf 6 = .ok (.iadd, 1) := by decide +kernel
theorem dX0_lengthOf_7 : decode cX0_lengthOf 7 = .ok (.ireturn, 1) := by decide +kernel
theorem dX0_breadthOf_0 : decode cX0_breadthOf 0 = .ok (.iload_n 0, 1) := by decide +kernel
theorem dX0_breadthOf_1 : decode cX0_breadthOf 1 = .ok (.bipush 12, 2) := by decide +kernel
theorem dX0_breadthOf_3 : decode cX0_breadthOf 3 = .ok (.idiv, 1) := by decide +kernel
theorem dX0_breadthOf_4 : decode cX0_breadthOf 4 = .ok (.bipush 12, 2) := by decide +kernel
theorem dX0_breadthOf_6 : decode cX0_breadthOf 6 = .ok (.irem, 1) := by decide +kernel
theorem dX0_breadthOf_7 : decode cX0_breadthOf 7 = .ok (.iconst 1, 1) := by decide +kernel
theorem dX0_breadthOf_8 : decode cX0_breadthOf 8 = .ok (.iadd, 1) := by decide +kernel
theorem dX0_breadthOf_9 : decode cX0_breadthOf 9 = .ok (.ireturn, 1) := by decide +kernel
theorem dX0_depthOf_0 : decode cX0_depthOf 0 = .ok (.iload_n 0, 1) := by decide +kernel
theorem dX0_depthOf_1 : decode cX0_depthOf 1 = .ok (.bipush 12, 2) := by decide +kernel
theorem dX0_depthOf_3 : decode cX0_depthOf 3 = .ok (.irem, 1) := by decide +kernel
theorem dX0_depthOf_4 : decode cX0_depthOf 4 = .ok (.iconst 1, 1) := by decide +kernel
theorem dX0_depthOf_5 : decode cX0_depthOf 5 = .ok (.iadd, 1) := by decide +kernel
theorem dX0_depthOf_6 : decode cX0_depthOf 6 = .ok (.ireturn, 1) := by decide +kernel
theorem dX1_init_0 : decode cX1_init 0 = .ok (.aload_n 0, 1) := by decide +kernel
theorem dX1_init_1 : decode cX1_init 1 = .ok (.invokespecial 3, 3) := by decide +kernel
theorem dX1_init_4 : decode cX1_init 4 = .ok (.aload_n 0, 1) := by decide +kernel
theorem dX1_init_5 : decode cX1_init 5 = .ok (.bipush 35, 2) := by decide +kernel
theorem dX1_init_7 : decode cX1_init 7 = .ok (.newarray .int, 2) := by decide +kernel
theorem dX1_init_9 : decode cX1_init 9 = .ok (.putfield 11, 3) := by decide +kernel
theorem dX1_init_12 : decode cX1_init 12 = .ok (.return_, 1) := by decide +kernel
theorem dX1_size_0 : decode cX1_size 0 = .ok (.aload_n 0, 1) := by decide +kernel
theorem dX1_size_1 : decode cX1_size 1 = .ok (.getfield 15, 3) := by decide +kernel
theorem dX1_size_4 : decode cX1_size 4 = .ok (.ireturn, 1) := by decide +kernel
theorem dX1_has_0 : decode cX1_has 0 = .ok (.iload_n 1, 1) := by decide +kernel
theorem dX1_has_1 : decode cX1_has 1 = .ok (.iconst 0, 1) := by decide +kernel
theorem dX1_has_2 : decode cX1_has 2 = .ok (.aload_n 0, 1) := by decide +kernel
theorem dX1_has_3 : decode cX1_has 3 = .ok (.getfield 15, 3) := by decide +kernel
theorem dX1_has_6 : decode cX1_has 6 = .ok (.iconst 1, 1) := by decide +kernel
theorem dX1_has_7 : decode cX1_has 7 = .ok (.isub, 1) := by decide +kernel
theorem dX1_has_8 : decode cX1_has 8 = .ok (.invokestatic 19, 3) := by decide +kernel
theorem dX1_has_11 : decode cX1_has 11 = .ok (.ireturn, 1) := by decide +kernel
theorem dX1_told_0 : decode cX1_told 0 = .ok (.aload_n 0, 1) := by decide +kernel
theorem dX1_told_1 : decode cX1_told 1 = .ok (.getfield 11, 3) := by decide +kernel
theorem dX1_told_4 : decode cX1_told 4 = .ok (.iload_n 1, 1) := by decide +kernel
theorem dX1_told_5 : decode cX1_told 5 = .ok (.bipush 7, 2) := by decide +kernel
theorem dX1_told_7 : decode cX1_told 7 = .ok (.imul, 1) := by decide +kernel
theorem dX1_told_8 : decode cX1_told 8 = .ok (.iload_n 2, 1) := by decide +kernel
theorem dX1_told_9 : decode cX1_told 9 = .ok (.iadd, 1) := by decide +kernel
theorem dX1_told_10 : decode cX1_told 10 = .ok (.iaload, 1) := by decide +kernel
theorem dX1_told_11 : decode cX1_told 11 = .ok (.ireturn, 1) := by decide +kernel
theorem dX1_add_0 : decode cX1_add 0 = .ok (.aload_n 0, 1) := by decide +kernel
theorem dX1_add_1 : decode cX1_add 1 = .ok (.getfield 15, 3) := by decide +kernel
theorem dX1_add_4 : decode cX1_add 4 = .ok (.iconst 5, 1) := by decide +kernel
theorem dX1_add_5 : decode cX1_add 5 = .ok (.if_icmp .lt 6, 3) := by decide +kernel
theorem dX1_add_8 : decode cX1_add 8 = .ok (.bipush (-2), 2) := by decide +kernel
theorem dX1_add_10 : decode cX1_add 10 = .ok (.ireturn, 1) := by decide +kernel
theorem dX1_add_11 : decode cX1_add 11 = .ok (.aload_n 0, 1) := by decide +kernel
theorem dX1_add_12 : decode cX1_add 12 = .ok (.aload_n 0, 1) := by decide +kernel
theorem dX1_add_13 : decode cX1_add 13 = .ok (.getfield 15, 3) := by decide +kernel
theorem dX1_add_16 : decode cX1_add 16 = .ok (.iload_n 1, 1) := by decide +kernel
theorem dX1_add_17 : decode cX1_add 17 = .ok (.iload_n 2, 1) := by decide +kernel
theorem dX1_add_18 : decode cX1_add 18 = .ok (.iload_n 3, 1) := by decide +kernel
theorem dX1_add_19 : decode cX1_add 19 = .ok (.iload 4, 2) := by decide +kernel
theorem dX1_add_21 : decode cX1_add 21 = .ok (.invokevirtual 23, 3) := by decide +kernel
theorem dX1_add_24 : decode cX1_add 24 = .ok (.aload_n 0, 1) := by decide +kernel
theorem dX1_add_25 : decode cX1_add 25 = .ok (.aload_n 0, 1) := by decide +kernel
theorem dX1_add_26 : decode cX1_add 26 = .ok (.getfield 15, 3) := by decide +kernel
theorem dX1_add_29 : decode cX1_add 29 = .ok (.ldc 27, 2) := by decide +kernel
theorem dX1_add_31 : decode cX1_add 31 = .ok (.ldc 27, 2) := by decide +kernel
theorem dX1_add_33 : decode cX1_add 33 = .ok (.ldc 27, 2) := by decide +kernel
theorem dX1_add_35 : decode cX1_add 35 = .ok (.invokevirtual 28, 3) := by decide +kernel
theorem dX1_add_38 : decode cX1_add 38 = .ok (.aload_n 0, 1) := by decide +kernel
theorem dX1_add_39 : decode cX1_add 39 = .ok (.dup, 1) := by decide +kernel
theorem dX1_add_40 : decode cX1_add 40 = .ok (.getfield 15, 3) := by decide +kernel
theorem dX1_add_43 : decode cX1_add 43 = .ok (.iconst 1, 1) := by decide +kernel
theorem dX1_add_44 : decode cX1_add 44 = .ok (.iadd, 1) := by decide +kernel
theorem dX1_add_45 : decode cX1_add 45 = .ok (.putfield 15, 3) := by decide +kernel
theorem dX1_add_48 : decode cX1_add 48 = .ok (.aload_n 0, 1) := by decide +kernel
theorem dX1_add_49 : decode cX1_add 49 = .ok (.getfield 15, 3) := by decide +kernel
theorem dX1_add_52 : decode cX1_add 52 = .ok (.iconst 1, 1) := by decide +kernel
theorem dX1_add_53 : decode cX1_add 53 = .ok (.isub, 1) := by decide +kernel
theorem dX1_add_54 : decode cX1_add 54 = .ok (.ireturn, 1) := by decide +kernel
theorem dX1_setSizes_0 : decode cX1_setSizes 0 = .ok (.iload_n 1, 1) := by decide +kernel
theorem dX1_setSizes_1 : decode cX1_setSizes 1 = .ok (.bipush 7, 2) := by decide +kernel
theorem dX1_setSizes_3 : decode cX1_setSizes 3 = .ok (.imul, 1) := by decide +kernel
theorem dX1_setSizes_4 : decode cX1_setSizes 4 = .ok (.istore 6, 2) := by decide +kernel
theorem dX1_setSizes_6 : decode cX1_setSizes 6 = .ok (.aload_n 0, 1) := by decide +kernel
theorem dX1_setSizes_7 : decode cX1_setSizes 7 = .ok (.getfield 11, 3) := by decide +kernel
theorem dX1_setSizes_10 : decode cX1_setSizes 10 = .ok (.iload 6, 2) := by decide +kernel
theorem dX1_setSizes_12 : decode cX1_setSizes 12 = .ok (.iconst 0, 1) := by decide +kernel
theorem dX1_setSizes_13 : decode cX1_setSizes 13 = .ok (.iadd, 1) := by decide +kernel
theorem dX1_setSizes_14 : decode cX1_setSizes 14 = .ok (.iload_n 2, 1) := by decide +kernel
theorem dX1_setSizes_15 : decode cX1_setSizes 15 = .ok (.iastore, 1) := by decide +kernel
theorem dX1_setSizes_16 : decode cX1_setSizes 16 = .ok (.aload_n 0, 1) := by decide +kernel
theorem dX1_setSizes_17 : decode cX1_setSizes 17 = .ok (.getfield 11, 3) := by decide +kernel
theorem dX1_setSizes_20 : decode cX1_setSizes 20 = .ok (.iload 6, 2) := by decide +kernel
theorem dX1_setSizes_22 : decode cX1_setSizes 22 = .ok (.iconst 1, 1) := by decide +kernel
theorem dX1_setSizes_23 : decode cX1_setSizes 23 = .ok (.iadd, 1) := by decide +kernel
theorem dX1_setSizes_24 : decode cX1_setSizes 24 = .ok (.iload_n 3, 1) := by decide +kernel
theorem dX1_setSizes_25 : decode cX1_setSizes 25 = .ok (.iastore, 1) := by decide +kernel
theorem dX1_setSizes_26 : decode cX1_setSizes 26 = .ok (.aload_n 0, 1) := by decide +kernel
theorem dX1_setSizes_27 : decode cX1_setSizes 27 = .ok (.getfield 11, 3) := by decide +kernel
theorem dX1_setSizes_30 : decode cX1_setSizes 30 = .ok (.iload 6, 2) := by decide +kernel
theorem dX1_setSizes_32 : decode cX1_setSizes 32 = .ok (.iconst 2, 1) := by decide +kernel
theorem dX1_setSizes_33 : decode cX1_setSizes 33 = .ok (.iadd, 1) := by decide +kernel
theorem dX1_setSizes_34 : decode cX1_setSizes 34 = .ok (.iload 4, 2) := by decide +kernel
theorem dX1_setSizes_36 : decode cX1_setSizes 36 = .ok (.iastore, 1) := by decide +kernel
theorem dX1_setSizes_37 : decode cX1_setSizes 37 = .ok (.aload_n 0, 1) := by decide +kernel
theorem dX1_setSizes_38 : decode cX1_setSizes 38 = .ok (.getfield 11, 3) := by decide +kernel
theorem dX1_setSizes_41 : decode cX1_setSizes 41 = .ok (.iload 6, 2) := by decide +kernel
theorem dX1_setSizes_43 : decode cX1_setSizes 43 = .ok (.iconst 3, 1) := by decide +kernel
theorem dX1_setSizes_44 : decode cX1_setSizes 44 = .ok (.iadd, 1) := by decide +kernel
theorem dX1_setSizes_45 : decode cX1_setSizes 45 = .ok (.iload 5, 2) := by decide +kernel
theorem dX1_setSizes_47 : decode cX1_setSizes 47 = .ok (.iastore, 1) := by decide +kernel
theorem dX1_setSizes_48 : decode cX1_setSizes 48 = .ok (.return_, 1) := by decide +kernel
theorem dX1_setMeasuring_0 : decode cX1_setMeasuring 0 = .ok (.iload_n 1, 1) := by decide +kernel
theorem dX1_setMeasuring_1 : decode cX1_setMeasuring 1 = .ok (.bipush 7, 2) := by decide +kernel
theorem dX1_setMeasuring_3 : decode cX1_setMeasuring 3 = .ok (.imul, 1) := by decide +kernel
theorem dX1_setMeasuring_4 : decode cX1_setMeasuring 4 = .ok (.istore 5, 2) := by decide +kernel
theorem dX1_setMeasuring_6 : decode cX1_setMeasuring 6 = .ok (.aload_n 0, 1) := by decide +kernel
theorem dX1_setMeasuring_7 : decode cX1_setMeasuring 7 = .ok (.getfield 11, 3) := by decide +kernel
theorem dX1_setMeasuring_10 : decode cX1_setMeasuring 10 = .ok (.iload 5, 2) := by decide +kernel
theorem dX1_setMeasuring_12 : decode cX1_setMeasuring 12 = .ok (.iconst 4, 1) := by decide +kernel
theorem dX1_setMeasuring_13 : decode cX1_setMeasuring 13 = .ok (.iadd, 1) := by decide +kernel
theorem dX1_setMeasuring_14 : decode cX1_setMeasuring 14 = .ok (.iload_n 2, 1) := by decide +kernel
theorem dX1_setMeasuring_15 : decode cX1_setMeasuring 15 = .ok (.iastore, 1) := by decide +kernel
theorem dX1_setMeasuring_16 : decode cX1_setMeasuring 16 = .ok (.aload_n 0, 1) := by decide +kernel
theorem dX1_setMeasuring_17 : decode cX1_setMeasuring 17 = .ok (.getfield 11, 3) := by decide +kernel
theorem dX1_setMeasuring_20 : decode cX1_setMeasuring 20 = .ok (.iload 5, 2) := by decide +kernel
theorem dX1_setMeasuring_22 : decode cX1_setMeasuring 22 = .ok (.iconst 5, 1) := by decide +kernel
theorem dX1_setMeasuring_23 : decode cX1_setMeasuring 23 = .ok (.iadd, 1) := by decide +kernel
theorem dX1_setMeasuring_24 : decode cX1_setMeasuring 24 = .ok (.iload_n 3, 1) := by decide +kernel
theorem dX1_setMeasuring_25 : decode cX1_setMeasuring 25 = .ok (.iastore, 1) := by decide +kernel
theorem dX1_setMeasuring_26 : decode cX1_setMeasuring 26 = .ok (.aload_n 0, 1) := by decide +kernel
theorem dX1_setMeasuring_27 : decode cX1_setMeasuring 27 = .ok (.getfield 11, 3) := by decide +kernel
theorem dX1_setMeasuring_30 : decode cX1_setMeasuring 30 = .ok (.iload 5, 2) := by decide +kernel
theorem dX1_setMeasuring_32 : decode cX1_setMeasuring 32 = .ok (.bipush 6, 2) := by decide +kernel
theorem dX1_setMeasuring_34 : decode cX1_setMeasuring 34 = .ok (.iadd, 1) := by decide +kernel
theorem dX1_setMeasuring_35 : decode cX1_setMeasuring 35 = .ok (.iload 4, 2) := by decide +kernel
theorem dX1_setMeasuring_37 : decode cX1_setMeasuring 37 = .ok (.iastore, 1) := by decide +kernel
theorem dX1_setMeasuring_38 : decode cX1_setMeasuring 38 = .ok (.return_, 1) := by decide +kernel
theorem dX2_init_0 : decode cX2_init 0 = .ok (.aload_n 0, 1) := by decide +kernel
theorem dX2_init_1 : decode cX2_init 1 = .ok (.invokespecial 7, 3) := by decide +kernel
theorem dX2_init_4 : decode cX2_init 4 = .ok (.aload_n 0, 1) := by decide +kernel
theorem dX2_init_5 : decode cX2_init 5 = .ok (.sipush 540, 3) := by decide +kernel
theorem dX2_init_8 : decode cX2_init 8 = .ok (.newarray .int, 2) := by decide +kernel
theorem dX2_init_10 : decode cX2_init 10 = .ok (.putfield 13, 3) := by decide +kernel
theorem dX2_init_13 : decode cX2_init 13 = .ok (.aload_n 0, 1) := by decide +kernel
theorem dX2_init_14 : decode cX2_init 14 = .ok (.bipush 60, 2) := by decide +kernel
theorem dX2_init_16 : decode cX2_init 16 = .ok (.newarray .boolean, 2) := by decide +kernel
theorem dX2_init_18 : decode cX2_init 18 = .ok (.putfield 17, 3) := by decide +kernel
theorem dX2_init_21 : decode cX2_init 21 = .ok (.aload_n 0, 1) := by decide +kernel
theorem dX2_init_22 : decode cX2_init 22 = .ok (.bipush 60, 2) := by decide +kernel
theorem dX2_init_24 : decode cX2_init 24 = .ok (.newarray .int, 2) := by decide +kernel
theorem dX2_init_26 : decode cX2_init 26 = .ok (.putfield 21, 3) := by decide +kernel
theorem dX2_init_29 : decode cX2_init 29 = .ok (.aload_n 0, 1) := by decide +kernel
theorem dX2_init_30 : decode cX2_init 30 = .ok (.bipush 60, 2) := by decide +kernel
theorem dX2_init_32 : decode cX2_init 32 = .ok (.newarray .int, 2) := by decide +kernel
theorem dX2_init_34 : decode cX2_init 34 = .ok (.putfield 24, 3) := by decide +kernel
theorem dX2_init_37 : decode cX2_init 37 = .ok (.aload_n 0, 1) := by decide +kernel
theorem dX2_init_38 : decode cX2_init 38 = .ok (.bipush 40, 2) := by decide +kernel
theorem dX2_init_40 : decode cX2_init 40 = .ok (.newarray .int, 2) := by decide +kernel
theorem dX2_init_42 : decode cX2_init 42 = .ok (.putfield 27, 3) := by decide +kernel
theorem dX2_init_45 : decode cX2_init 45 = .ok (.aload_n 0, 1) := by decide +kernel
theorem dX2_init_46 : decode cX2_init 46 = .ok (.bipush 40, 2) := by decide +kernel
theorem dX2_init_48 : decode cX2_init 48 = .ok (.newarray .int, 2) := by decide +kernel
theorem dX2_init_50 : decode cX2_init 50 = .ok (.putfield 30, 3) := by decide +kernel
theorem dX2_init_53 : decode cX2_init 53 = .ok (.aload_n 0, 1) := by decide +kernel
theorem dX2_init_54 : decode cX2_init 54 = .ok (.bipush 40, 2) := by decide +kernel
theorem dX2_init_56 : decode cX2_init 56 = .ok (.newarray .int, 2) := by decide +kernel
theorem dX2_init_58 : decode cX2_init 58 = .ok (.putfield 33, 3) := by decide +kernel
theorem dX2_init_61 : decode cX2_init 61 = .ok (.aload_n 0, 1) := by decide +kernel
theorem dX2_init_62 : decode cX2_init 62 = .ok (.bipush 40, 2) := by decide +kernel
theorem dX2_init_64 : decode cX2_init 64 = .ok (.newarray .int, 2) := by decide +kernel
theorem dX2_init_66 : decode cX2_init 66 = .ok (.putfield 36, 3) := by decide +kernel
theorem dX2_init_69 : decode cX2_init 69 = .ok (.aload_n 0, 1) := by decide +kernel
theorem dX2_init_70 : decode cX2_init 70 = .ok (.invokevirtual 39, 3) := by decide +kernel
theorem dX2_init_73 : decode cX2_init 73 = .ok (.return_, 1) := by decide +kernel
theorem dX2_size_0 : decode cX2_size 0 = .ok (.aload_n 0, 1) := by decide +kernel
theorem dX2_size_1 : decode cX2_size 1 = .ok (.getfield 42, 3) := by decide +kernel
theorem dX2_size_4 : decode cX2_size 4 = .ok (.ireturn, 1) := by decide +kernel
theorem dX2_has_0 : decode cX2_has 0 = .ok (.iload_n 1, 1) := by decide +kernel
theorem dX2_has_1 : decode cX2_has 1 = .ok (.iconst 0, 1) := by decide +kernel
theorem dX2_has_2 : decode cX2_has 2 = .ok (.aload_n 0, 1) := by decide +kernel
theorem dX2_has_3 : decode cX2_has 3 = .ok (.getfield 42, 3) := by decide +kernel
theorem dX2_has_6 : decode cX2_has 6 = .ok (.iconst 1, 1) := by decide +kernel
theorem dX2_has_7 : decode cX2_has 7 = .ok (.isub, 1) := by decide +kernel
theorem dX2_has_8 : decode cX2_has 8 = .ok (.invokestatic 46, 3) := by decide +kernel
theorem dX2_has_11 : decode cX2_has 11 = .ok (.ireturn, 1) := by decide +kernel
theorem dX2_told_0 : decode cX2_told 0 = .ok (.aload_n 0, 1) := by decide +kernel
theorem dX2_told_1 : decode cX2_told 1 = .ok (.getfield 13, 3) := by decide +kernel
theorem dX2_told_4 : decode cX2_told 4 = .ok (.iload_n 1, 1) := by decide +kernel
theorem dX2_told_5 : decode cX2_told 5 = .ok (.bipush 9, 2) := by decide +kernel
theorem dX2_told_7 : decode cX2_told 7 = .ok (.imul, 1) := by decide +kernel
theorem dX2_told_8 : decode cX2_told 8 = .ok (.iload_n 2, 1) := by decide +kernel
theorem dX2_told_9 : decode cX2_told 9 = .ok (.iadd, 1) := by decide +kernel
theorem dX2_told_10 : decode cX2_told 10 = .ok (.iaload, 1) := by decide +kernel
theorem dX2_told_11 : decode cX2_told 11 = .ok (.ireturn, 1) := by decide +kernel
theorem dX2_addRedeem_0 : decode cX2_addRedeem 0 = .ok (.aload_n 0, 1) := by decide +kernel
theorem dX2_addRedeem_1 : decode cX2_addRedeem 1 = .ok (.iload_n 1, 1) := by decide +kernel
theorem dX2_addRedeem_2 : decode cX2_addRedeem 2 = .ok (.iconst 0, 1) := by decide +kernel
theorem dX2_addRedeem_3 : decode cX2_addRedeem 3 = .ok (.invokevirtual 50, 3) := by decide +kernel
theorem dX2_addRedeem_6 : decode cX2_addRedeem 6 = .ok (.iconst 1, 1) := by decide +kernel
theorem dX2_addRedeem_7 : decode cX2_addRedeem 7 = .ok (.if_icmp .eq 6, 3) := by decide +kernel
theorem dX2_addRedeem_10 : decode cX2_addRedeem 10 = .ok (.bipush (-5), 2) := by decide +kernel
theorem dX2_addRedeem_12 : decode cX2_addRedeem 12 = .ok (.ireturn, 1) := by decide +kernel
theorem dX2_addRedeem_13 : decode cX2_addRedeem 13 = .ok (.aload_n 0, 1) := by decide +kernel
theorem dX2_addRedeem_14 : decode cX2_addRedeem 14 = .ok (.iconst 2, 1) := by decide +kernel
theorem dX2_addRedeem_15 : decode cX2_addRedeem 15 = .ok (.aload_n 0, 1) := by decide +kernel
theorem dX2_addRedeem_16 : decode cX2_addRedeem 16 = .ok (.iload_n 1, 1) := by decide +kernel
theorem dX2_addRedeem_17 : decode cX2_addRedeem 17 = .ok (.iconst 1, 1) := by decide +kernel
theorem dX2_addRedeem_18 : decode cX2_addRedeem 18 = .ok (.invokevirtual 50, 3) := by decide +kernel
theorem dX2_addRedeem_21 : decode cX2_addRedeem 21 = .ok (.aload_n 0, 1) := by decide +kernel
theorem dX2_addRedeem_22 : decode cX2_addRedeem 22 = .ok (.iload_n 1, 1) := by decide +kernel
theorem dX2_addRedeem_23 : decode cX2_addRedeem 23 = .ok (.iconst 2, 1) := by decide +kernel
theorem dX2_addRedeem_24 : decode cX2_addRedeem 24 = .ok (.invokevirtual 50, 3) := by decide +kernel
theorem dX2_addRedeem_27 : decode cX2_addRedeem 27 = .ok (.aload_n 0, 1) := by decide +kernel
theorem dX2_addRedeem_28 : decode cX2_addRedeem 28 = .ok (.iload_n 1, 1) := by decide +kernel
theorem dX2_addRedeem_29 : decode cX2_addRedeem 29 = .ok (.iconst 3, 1) := by decide +kernel
theorem dX2_addRedeem_30 : decode cX2_addRedeem 30 = .ok (.invokevirtual 50, 3) := by decide +kernel
theorem dX2_addRedeem_33 : decode cX2_addRedeem 33 = .ok (.aload_n 0, 1) := by decide +kernel
theorem dX2_addRedeem_34 : decode cX2_addRedeem 34 = .ok (.iload_n 1, 1) := by decide +kernel
theorem dX2_addRedeem_35 : decode cX2_addRedeem 35 = .ok (.iconst 4, 1) := by decide +kernel
theorem dX2_addRedeem_36 : decode cX2_addRedeem 36 = .ok (.invokevirtual 50, 3) := by decide +kernel
theorem dX2_addRedeem_39 : decode cX2_addRedeem 39 = .ok (.iload_n 1, 1) := by decide +kernel
theorem dX2_addRedeem_40 : decode cX2_addRedeem 40 = .ok (.invokevirtual 54, 3) := by decide +kernel
theorem dX2_addRedeem_43 : decode cX2_addRedeem 43 = .ok (.ireturn, 1) := by decide +kernel
theorem dX2_add_0 : decode cX2_add 0 = .ok (.aload_n 0, 1) := by decide +kernel
theorem dX2_add_1 : decode cX2_add 1 = .ok (.getfield 42, 3) := by decide +kernel
theorem dX2_add_4 : decode cX2_add 4 = .ok (.bipush 60, 2) := by decide +kernel
theorem dX2_add_6 : decode cX2_add 6 = .ok (.if_icmp .lt 6, 3) := by decide +kernel
theorem dX2_add_9 : decode cX2_add 9 = .ok (.bipush (-2), 2) := by decide +kernel
theorem dX2_add_11 : decode cX2_add 11 = .ok (.ireturn, 1) := by decide +kernel
theorem dX2_add_12 : decode cX2_add 12 = .ok (.aload_n 0, 1) := by decide +kernel
theorem dX2_add_13 : decode cX2_add 13 = .ok (.getfield 21, 3) := by decide +kernel
theorem dX2_add_16 : decode cX2_add 16 = .ok (.aload_n 0, 1) := by decide +kernel
theorem dX2_add_17 : decode cX2_add 17 = .ok (.getfield 42, 3) := by decide +kernel
theorem dX2_add_20 : decode cX2_add 20 = .ok (.iload_n 2, 1) := by decide +kernel
theorem dX2_add_21 : decode cX2_add 21 = .ok (.iload_n 3, 1) := by decide +kernel
theorem dX2_add_22 : decode cX2_add 22 = .ok (.invokestatic 58, 3) := by decide +kernel
theorem dX2_add_25 : decode cX2_add 25 = .ok (.iastore, 1) := by decide +kernel
theorem dX2_add_26 : decode cX2_add 26 = .ok (.aload_n 0, 1) := by decide +kernel
theorem dX2_add_27 : decode cX2_add 27 = .ok (.getfield 24, 3) := by decide +kernel
theorem dX2_add_30 : decode cX2_add 30 = .ok (.aload_n 0, 1) := by decide +kernel
theorem dX2_add_31 : decode cX2_add 31 = .ok (.getfield 42, 3) := by decide +kernel
theorem dX2_add_34 : decode cX2_add 34 = .ok (.iload_n 2, 1) := by decide +kernel
theorem dX2_add_35 : decode cX2_add 35 = .ok (.iload 4, 2) := by decide +kernel
theorem dX2_add_37 : decode cX2_add 37 = .ok (.invokestatic 58, 3) := by decide +kernel
theorem dX2_add_40 : decode cX2_add 40 = .ok (.iastore, 1) := by decide +kernel
theorem dX2_add_41 : decode cX2_add 41 = .ok (.aload_n 0, 1) := by decide +kernel
theorem dX2_add_42 : decode cX2_add 42 = .ok (.aload_n 0, 1) := by decide +kernel
theorem dX2_add_43 : decode cX2_add 43 = .ok (.getfield 42, 3) := by decide +kernel
theorem dX2_add_46 : decode cX2_add 46 = .ok (.iconst 0, 1) := by decide +kernel
theorem dX2_add_47 : decode cX2_add 47 = .ok (.iload_n 1, 1) := by decide +kernel
theorem dX2_add_48 : decode cX2_add 48 = .ok (.invokevirtual 61, 3) := by decide +kernel
theorem dX2_add_51 : decode cX2_add 51 = .ok (.aload_n 0, 1) := by decide +kernel
theorem dX2_add_52 : decode cX2_add 52 = .ok (.aload_n 0, 1) := by decide +kernel
theorem dX2_add_53 : decode cX2_add 53 = .ok (.getfield 42, 3) := by decide +kernel
theorem dX2_add_56 : decode cX2_add 56 = .ok (.iconst 1, 1) := by decide +kernel
theorem dX2_add_57 : decode cX2_add 57 = .ok (.iload_n 2, 1) := by decide +kernel
theorem dX2_add_58 : decode cX2_add 58 = .ok (.invokevirtual 61, 3) := by decide +kernel
theorem dX2_add_61 : decode cX2_add 61 = .ok (.aload_n 0, 1) := by decide +kernel
theorem dX2_add_62 : decode cX2_add 62 = .ok (.aload_n 0, 1) := by decide +kernel
theorem dX2_add_63 : decode cX2_add 63 = .ok (.getfield 42, 3) := by decide +kernel
theorem dX2_add_66 : decode cX2_add 66 = .ok (.iconst 2, 1) := by decide +kernel
theorem dX2_add_67 : decode cX2_add 67 = .ok (.iload_n 3, 1) := by decide +kernel
theorem dX2_add_68 : decode cX2_add 68 = .ok (.invokevirtual 61, 3) := by decide +kernel
theorem dX2_add_71 : decode cX2_add 71 = .ok (.aload_n 0, 1) := by decide +kernel
theorem dX2_add_72 : decode cX2_add 72 = .ok (.aload_n 0, 1) := by decide +kernel
theorem dX2_add_73 : decode cX2_add 73 = .ok (.getfield 42, 3) := by decide +kernel
theorem dX2_add_76 : decode cX2_add 76 = .ok (.iconst 3, 1) := by decide +kernel
theorem dX2_add_77 : decode cX2_add 77 = .ok (.iload 4, 2) := by decide +kernel
theorem dX2_add_79 : decode cX2_add 79 = .ok (.invokevirtual 61, 3) := by decide +kernel
theorem dX2_add_82 : decode cX2_add 82 = .ok (.aload_n 0, 1) := by decide +kernel
theorem dX2_add_83 : decode cX2_add 83 = .ok (.aload_n 0, 1) := by decide +kernel
theorem dX2_add_84 : decode cX2_add 84 = .ok (.getfield 42, 3) := by decide +kernel
theorem dX2_add_87 : decode cX2_add 87 = .ok (.iconst 4, 1) := by decide +kernel
theorem dX2_add_88 : decode cX2_add 88 = .ok (.iload 5, 2) := by decide +kernel
theorem dX2_add_90 : decode cX2_add 90 = .ok (.invokevirtual 61, 3) := by decide +kernel
theorem dX2_add_93 : decode cX2_add 93 = .ok (.aload_n 0, 1) := by decide +kernel
theorem dX2_add_94 : decode cX2_add 94 = .ok (.aload_n 0, 1) := by decide +kernel
theorem dX2_add_95 : decode cX2_add 95 = .ok (.getfield 42, 3) := by decide +kernel
theorem dX2_add_98 : decode cX2_add 98 = .ok (.bipush 8, 2) := by decide +kernel
theorem dX2_add_100 : decode cX2_add 100 = .ok (.iload 6, 2) := by decide +kernel
theorem dX2_add_102 : decode cX2_add 102 = .ok (.invokevirtual 61, 3) := by decide +kernel
theorem dX2_add_105 : decode cX2_add 105 = .ok (.aload_n 0, 1) := by decide +kernel
theorem dX2_add_106 : decode cX2_add 106 = .ok (.dup, 1) := by decide +kernel
theorem dX2_add_107 : decode cX2_add 107 = .ok (.getfield 42, 3) := by decide +kernel
theorem dX2_add_110 : decode cX2_add 110 = .ok (.iconst 1, 1) := by decide +kernel
theorem dX2_add_111 : decode cX2_add 111 = .ok (.iadd, 1) := by decide +kernel
theorem dX2_add_112 : decode cX2_add 112 = .ok (.putfield 42, 3) := by decide +kernel
theorem dX2_add_115 : decode cX2_add 115 = .ok (.aload_n 0, 1) := by decide +kernel
theorem dX2_add_116 : decode cX2_add 116 = .ok (.invokevirtual 39, 3) := by decide +kernel
theorem dX2_add_119 : decode cX2_add 119 = .ok (.aload_n 0, 1) := by decide +kernel
theorem dX2_add_120 : decode cX2_add 120 = .ok (.getfield 42, 3) := by decide +kernel
theorem dX2_add_123 : decode cX2_add 123 = .ok (.iconst 1, 1) := by decide +kernel
theorem dX2_add_124 : decode cX2_add 124 = .ok (.isub, 1) := by decide +kernel
theorem dX2_add_125 : decode cX2_add 125 = .ok (.ireturn, 1) := by decide +kernel
theorem dX2_markForged_0 : decode cX2_markForged 0 = .ok (.aload_n 0, 1) := by decide +kernel
theorem dX2_markForged_1 : decode cX2_markForged 1 = .ok (.iload_n 1, 1) := by decide +kernel
theorem dX2_markForged_2 : decode cX2_markForged 2 = .ok (.invokevirtual 65, 3) := by decide +kernel
theorem dX2_markForged_5 : decode cX2_markForged 5 = .ok (.ifCond .eq 6, 3) := by decide +kernel
theorem dX2_markForged_8 : decode cX2_markForged 8 = .ok (.bipush (-3), 2) := by decide +kernel
theorem dX2_markForged_10 : decode cX2_markForged 10 = .ok (.ireturn, 1) := by decide +kernel
theorem dX2_markForged_11 : decode cX2_markForged 11 = .ok (.aload_n 0, 1) := by decide +kernel
theorem dX2_markForged_12 : decode cX2_markForged 12 = .ok (.iload_n 1, 1) := by decide +kernel
theorem dX2_markForged_13 : decode cX2_markForged 13 = .ok (.iconst 5, 1) := by decide +kernel
theorem dX2_markForged_14 : decode cX2_markForged 14 = .ok (.iconst 1, 1) := by decide +kernel
theorem dX2_markForged_15 : decode cX2_markForged 15 = .ok (.invokevirtual 61, 3) := by decide +kernel
theorem dX2_markForged_18 : decode cX2_markForged 18 = .ok (.aload_n 0, 1) := by decide +kernel
theorem dX2_markForged_19 : decode cX2_markForged 19 = .ok (.invokevirtual 39, 3) := by decide +kernel
theorem dX2_markForged_22 : decode cX2_markForged 22 = .ok (.iconst 1, 1) := by decide +kernel
theorem dX2_markForged_23 : decode cX2_markForged 23 = .ok (.ireturn, 1) := by decide +kernel
theorem dX2_allParts_0 : decode cX2_allParts 0 = .ok (.aload_n 0, 1) := by decide +kernel
theorem dX2_allParts_1 : decode cX2_allParts 1 = .ok (.getfield 27, 3) := by decide +kernel
theorem dX2_allParts_4 : decode cX2_allParts 4 = .ok (.iload_n 1, 1) := by decide +kernel
theorem dX2_allParts_5 : decode cX2_allParts 5 = .ok (.iload_n 2, 1) := by decide +kernel
theorem dX2_allParts_6 : decode cX2_allParts 6 = .ok (.invokestatic 58, 3) := by decide +kernel
theorem dX2_allParts_9 : decode cX2_allParts 9 = .ok (.iaload, 1) := by decide +kernel
theorem dX2_allParts_10 : decode cX2_allParts 10 = .ok (.ireturn, 1) := by decide +kernel
theorem dX2_freeParts_0 : decode cX2_freeParts 0 = .ok (.aload_n 0, 1) := by decide +kernel
theorem dX2_freeParts_1 : decode cX2_freeParts 1 = .ok (.iload_n 1, 1) := by decide +kernel
theorem dX2_freeParts_2 : decode cX2_freeParts 2 = .ok (.iload_n 2, 1) := by decide +kernel
theorem dX2_freeParts_3 : decode cX2_freeParts 3 = .ok (.invokestatic 58, 3) := by decide +kernel
theorem dX2_freeParts_6 : decode cX2_freeParts 6 = .ok (.invokevirtual 69, 3) := by decide +kernel
theorem dX2_freeParts_9 : decode cX2_freeParts 9 = .ok (.ireturn, 1) := by decide +kernel
theorem dX2_partsHeld_0 : decode cX2_partsHeld 0 = .ok (.aload_n 0, 1) := by decide +kernel
theorem dX2_partsHeld_1 : decode cX2_partsHeld 1 = .ok (.getfield 33, 3) := by decide +kernel
theorem dX2_partsHeld_4 : decode cX2_partsHeld 4 = .ok (.iload_n 1, 1) := by decide +kernel
theorem dX2_partsHeld_5 : decode cX2_partsHeld 5 = .ok (.iload_n 2, 1) := by decide +kernel
theorem dX2_partsHeld_6 : decode cX2_partsHeld 6 = .ok (.invokestatic 58, 3) := by decide +kernel
theorem dX2_partsHeld_9 : decode cX2_partsHeld 9 = .ok (.iaload, 1) := by decide +kernel
theorem dX2_partsHeld_10 : decode cX2_partsHeld 10 = .ok (.ireturn, 1) := by decide +kernel
theorem dX2_greatestOwner_0 : decode cX2_greatestOwner 0 = .ok (.iconst 0, 1) := by decide +kernel
theorem dX2_greatestOwner_1 : decode cX2_greatestOwner 1 = .ok (.istore_n 2, 1) := by decide +kernel
theorem dX2_greatestOwner_2 : decode cX2_greatestOwner 2 = .ok (.iconst 1, 1) := by decide +kernel
theorem dX2_greatestOwner_3 : decode cX2_greatestOwner 3 = .ok (.istore_n 3, 1) := by decide +kernel
theorem dX2_greatestOwner_4 : decode cX2_greatestOwner 4 = .ok (.iload_n 3, 1) := by decide +kernel
theorem dX2_greatestOwner_5 : decode cX2_greatestOwner 5 = .ok (.bipush 8, 2) := by decide +kernel
theorem dX2_greatestOwner_7 : decode cX2_greatestOwner 7 = .ok (.if_icmp .ge 26, 3) := by decide +kernel
theorem dX2_greatestOwner_10 : decode cX2_greatestOwner 10 = .ok (.aload_n 0, 1) := by decide +kernel
theorem dX2_greatestOwner_11 : decode cX2_greatestOwner 11 = .ok (.iload_n 1, 1) := by decide +kernel
theorem dX2_greatestOwner_12 : decode cX2_greatestOwner 12 = .ok (.iload_n 3, 1) := by decide +kernel
theorem dX2_greatestOwner_13 : decode cX2_greatestOwner 13 = .ok (.invokevirtual 73, 3) := by decide +kernel
theorem dX2_greatestOwner_16 : decode cX2_greatestOwner 16 = .ok (.aload_n 0, 1) := by decide +kernel
theorem dX2_greatestOwner_17 : decode cX2_greatestOwner 17 = .ok (.iload_n 1, 1) := by decide +kernel
theorem dX2_greatestOwner_18 : decode cX2_greatestOwner 18 = .ok (.iload_n 2, 1) := by decide +kernel
theorem dX2_greatestOwner_19 : decode cX2_greatestOwner 19 = .ok (.invokevirtual 73, 3) := by decide +kernel
theorem dX2_greatestOwner_22 : decode cX2_greatestOwner 22 = .ok (.if_icmp .le 5, 3) := by decide +kernel
theorem dX2_greatestOwner_25 : decode cX2_greatestOwner 25 = .ok (.iload_n 3, 1) := by decide +kernel
theorem dX2_greatestOwner_26 : decode cX2_greatestOwner 26 = .ok (.istore_n 2, 1) := by decide +kernel
theorem dX2_greatestOwner_27 : decode cX2_greatestOwner 27 = .ok (.iinc 3 1, 3) := by decide +kernel
theorem dX2_greatestOwner_30 : decode cX2_greatestOwner 30 = .ok (.goto (-26), 3) := by decide +kernel
theorem dX2_greatestOwner_33 : decode cX2_greatestOwner 33 = .ok (.iload_n 2, 1) := by decide +kernel
theorem dX2_greatestOwner_34 : decode cX2_greatestOwner 34 = .ok (.ireturn, 1) := by decide +kernel
theorem dX2_forgedEntries_0 : decode cX2_forgedEntries 0 = .ok (.aload_n 0, 1) := by decide +kernel
theorem dX2_forgedEntries_1 : decode cX2_forgedEntries 1 = .ok (.iconst 5, 1) := by decide +kernel
theorem dX2_forgedEntries_2 : decode cX2_forgedEntries 2 = .ok (.invokevirtual 76, 3) := by decide +kernel
theorem dX2_forgedEntries_5 : decode cX2_forgedEntries 5 = .ok (.ireturn, 1) := by decide +kernel
theorem dX2_voidEntries_0 : decode cX2_voidEntries 0 = .ok (.aload_n 0, 1) := by decide +kernel
theorem dX2_voidEntries_1 : decode cX2_voidEntries 1 = .ok (.bipush 6, 2) := by decide +kernel
theorem dX2_voidEntries_3 : decode cX2_voidEntries 3 = .ok (.invokevirtual 76, 3) := by decide +kernel
theorem dX2_voidEntries_6 : decode cX2_voidEntries 6 = .ok (.ireturn, 1) := by decide +kernel
theorem dX2_standingPledges_0 : decode cX2_standingPledges 0 = .ok (.iconst 0, 1) := by decide +kernel
theorem dX2_standingPledges_1 : decode cX2_standingPledges 1 = .ok (.istore_n 1, 1) := by decide +kernel
theorem dX2_standingPledges_2 : decode cX2_standingPledges 2 = .ok (.iconst 0, 1) := by decide +kernel
theorem dX2_standingPledges_3 : decode cX2_standingPledges 3 = .ok (.istore_n 2, 1) := by decide +kernel
theorem dX2_standingPledges_4 : decode cX2_standingPledges 4 = .ok (.iload_n 2, 1) := by decide +kernel
theorem dX2_standingPledges_5 : decode cX2_standingPledges 5 = .ok (.aload_n 0, 1) := by decide +kernel
theorem dX2_standingPledges_6 : decode cX2_standingPledges 6 = .ok (.getfield 42, 3) := by decide +kernel
theorem dX2_standingPledges_9 : decode cX2_standingPledges 9 = .ok (.if_icmp .ge 26, 3) := by decide +kernel
theorem dX2_standingPledges_12 : decode cX2_standingPledges 12 = .ok (.iload_n 1, 1) := by decide +kernel
theorem dX2_standingPledges_13 : decode cX2_standingPledges 13 = .ok (.aload_n 0, 1) := by decide +kernel
theorem dX2_standingPledges_14 : decode cX2_standingPledges 14 = .ok (.getfield 17, 3) := by decide +kernel
theorem dX2_standingPledges_17 : decode cX2_standingPledges 17 = .ok (.iload_n 2, 1) := by decide +kernel
theorem dX2_standingPledges_18 : decode cX2_standingPledges 18 = .ok (.baload, 1) := by decide +kernel
theorem dX2_standingPledges_19 : decode cX2_standingPledges 19 = .ok (.ifCond .eq 7, 3) := by decide +kernel
theorem dX2_standingPledges_22 : decode cX2_standingPledges 22 = .ok (.iconst 1, 1) := by decide +kernel
theorem dX2_standingPledges_23 : decode cX2_standingPledges 23 = .ok (.goto 4, 3) := by decide +kernel
theorem dX2_standingPledges_26 : decode cX2_standingPledges 26 = .ok (.iconst 0, 1) := by decide +kernel
theorem dX2_standingPledges_27 : decode cX2_standingPledges 27 = .ok (.iadd, 1) := by decide +kernel
theorem dX2_standingPledges_28 : decode cX2_standingPledges 28 = .ok (.istore_n 1, 1) := by decide +kernel
theorem dX2_standingPledges_29 : decode cX2_standingPledges 29 = .ok (.iinc 2 1, 3) := by decide +kernel
theorem dX2_standingPledges_32 : decode cX2_standingPledges 32 = .ok (.goto (-28), 3) := by decide +kernel
theorem dX2_standingPledges_35 : decode cX2_standingPledges 35 = .ok (.iload_n 1, 1) := by decide +kernel
theorem dX2_standingPledges_36 : decode cX2_standingPledges 36 = .ok (.ireturn, 1) := by decide +kernel
theorem dX2_sumOf_0 : decode cX2_sumOf 0 = .ok (.iconst 0, 1) := by decide +kernel
theorem dX2_sumOf_1 : decode cX2_sumOf 1 = .ok (.istore_n 2, 1) := by decide +kernel
theorem dX2_sumOf_2 : decode cX2_sumOf 2 = .ok (.iconst 0, 1) := by decide +kernel
theorem dX2_sumOf_3 : decode cX2_sumOf 3 = .ok (.istore_n 3, 1) := by decide +kernel
theorem dX2_sumOf_4 : decode cX2_sumOf 4 = .ok (.iload_n 3, 1) := by decide +kernel
theorem dX2_sumOf_5 : decode cX2_sumOf 5 = .ok (.aload_n 0, 1) := by decide +kernel
theorem dX2_sumOf_6 : decode cX2_sumOf 6 = .ok (.getfield 42, 3) := by decide +kernel
theorem dX2_sumOf_9 : decode cX2_sumOf 9 = .ok (.if_icmp .ge 18, 3) := by decide +kernel
theorem dX2_sumOf_12 : decode cX2_sumOf 12 = .ok (.iload_n 2, 1) := by decide +kernel
theorem dX2_sumOf_13 : decode cX2_sumOf 13 = .ok (.aload_n 0, 1) := by decide +kernel
theorem dX2_sumOf_14 : decode cX2_sumOf 14 = .ok (.iload_n 3, 1) := by decide +kernel
theorem dX2_sumOf_15 : decode cX2_sumOf 15 = .ok (.iload_n 1, 1) := by decide +kernel
theorem dX2_sumOf_16 : decode cX2_sumOf 16 = .ok (.invokevirtual 50, 3) := by decide +kernel
theorem dX2_sumOf_19 : decode cX2_sumOf 19 = .ok (.iadd, 1) := by decide +kernel
theorem dX2_sumOf_20 : decode cX2_sumOf 20 = .ok (.istore_n 2, 1) := by decide +kernel
theorem dX2_sumOf_21 : decode cX2_sumOf 21 = .ok (.iinc 3 1, 3) := by decide +kernel
theorem dX2_sumOf_24 : decode cX2_sumOf 24 = .ok (.goto (-20), 3) := by decide +kernel
theorem dX2_sumOf_27 : decode cX2_sumOf 27 = .ok (.iload_n 2, 1) := by decide +kernel
theorem dX2_sumOf_28 : decode cX2_sumOf 28 = .ok (.ireturn, 1) := by decide +kernel
theorem dX2_put_0 : decode cX2_put 0 = .ok (.aload_n 0, 1) := by decide +kernel
theorem dX2_put_1 : decode cX2_put 1 = .ok (.getfield 13, 3) := by decide +kernel
theorem dX2_put_4 : decode cX2_put 4 = .ok (.iload_n 1, 1) := by decide +kernel
theorem dX2_put_5 : decode cX2_put 5 = .ok (.bipush 9, 2) := by decide +kernel
theorem dX2_put_7 : decode cX2_put 7 = .ok (.imul, 1) := by decide +kernel
theorem dX2_put_8 : decode cX2_put 8 = .ok (.iload_n 2, 1) := by decide +kernel
theorem dX2_put_9 : decode cX2_put 9 = .ok (.iadd, 1) := by decide +kernel
theorem dX2_put_10 : decode cX2_put 10 = .ok (.iload_n 3, 1) := by decide +kernel
theorem dX2_put_11 : decode cX2_put 11 = .ok (.iastore, 1) := by decide +kernel
theorem dX2_put_12 : decode cX2_put 12 = .ok (.return_, 1) := by decide +kernel
theorem dX2_isForged_0 : decode cX2_isForged 0 = .ok (.aload_n 0, 1) := by decide +kernel
theorem dX2_isForged_1 : decode cX2_isForged 1 = .ok (.iload_n 1, 1) := by decide +kernel
theorem dX2_isForged_2 : decode cX2_isForged 2 = .ok (.iconst 5, 1) := by decide +kernel
theorem dX2_isForged_3 : decode cX2_isForged 3 = .ok (.invokevirtual 50, 3) := by decide +kernel
theorem dX2_isForged_6 : decode cX2_isForged 6 = .ok (.iconst 1, 1) := by decide +kernel
theorem dX2_isForged_7 : decode cX2_isForged 7 = .ok (.if_icmp .ne 7, 3) := by decide +kernel
theorem dX2_isForged_10 : decode cX2_isForged 10 = .ok (.iconst 1, 1) := by decide +kernel
theorem dX2_isForged_11 : decode cX2_isForged 11 = .ok (.goto 4, 3) := by decide +kernel
theorem dX2_isForged_14 : decode cX2_isForged 14 = .ok (.iconst 0, 1) := by decide +kernel
theorem dX2_isForged_15 : decode cX2_isForged 15 = .ok (.ireturn, 1) := by decide +kernel
theorem dX2_account_0 : decode cX2_account 0 = .ok (.iload_n 0, 1) := by decide +kernel
theorem dX2_account_1 : decode cX2_account 1 = .ok (.bipush 8, 2) := by decide +kernel
theorem dX2_account_3 : decode cX2_account 3 = .ok (.imul, 1) := by decide +kernel
theorem dX2_account_4 : decode cX2_account 4 = .ok (.iload_n 1, 1) := by decide +kernel
theorem dX2_account_5 : decode cX2_account 5 = .ok (.iadd, 1) := by decide +kernel
theorem dX2_account_6 : decode cX2_account 6 = .ok (.ireturn, 1) := by decide +kernel
theorem dX2_freeOf_0 : decode cX2_freeOf 0 = .ok (.aload_n 0, 1) := by decide +kernel
theorem dX2_freeOf_1 : decode cX2_freeOf 1 = .ok (.getfield 27, 3) := by decide +kernel
theorem dX2_freeOf_4 : decode cX2_freeOf 4 = .ok (.iload_n 1, 1) := by decide +kernel
theorem dX2_freeOf_5 : decode cX2_freeOf 5 = .ok (.iaload, 1) := by decide +kernel
theorem dX2_freeOf_6 : decode cX2_freeOf 6 = .ok (.aload_n 0, 1) := by decide +kernel
theorem dX2_freeOf_7 : decode cX2_freeOf 7 = .ok (.getfield 30, 3) := by decide +kernel
theorem dX2_freeOf_10 : decode cX2_freeOf 10 = .ok (.iload_n 1, 1) := by decide +kernel
theorem dX2_freeOf_11 : decode cX2_freeOf 11 = .ok (.iaload, 1) := by decide +kernel
theorem dX2_freeOf_12 : decode cX2_freeOf 12 = .ok (.isub, 1) := by decide +kernel
theorem dX2_freeOf_13 : decode cX2_freeOf 13 = .ok (.ireturn, 1) := by decide +kernel
theorem dX2_goThrough_0 : decode cX2_goThrough 0 = .ok (.aload_n 0, 1) := by decide +kernel
theorem dX2_goThrough_1 : decode cX2_goThrough 1 = .ok (.invokevirtual 79, 3) := by decide +kernel
theorem dX2_goThrough_4 : decode cX2_goThrough 4 = .ok (.iconst 0, 1) := by decide +kernel
theorem dX2_goThrough_5 : decode cX2_goThrough 5 = .ok (.istore_n 1, 1) := by decide +kernel
theorem dX2_goThrough_6 : decode cX2_goThrough 6 = .ok (.iload_n 1, 1) := by decide +kernel
theorem dX2_goThrough_7 : decode cX2_goThrough 7 = .ok (.aload_n 0, 1) := by decide +kernel
theorem dX2_goThrough_8 : decode cX2_goThrough 8 = .ok (.getfield 42, 3) := by decide +kernel
theorem dX2_goThrough_11 : decode cX2_goThrough 11 = .ok (.if_icmp .ge 37, 3) := by decide +kernel
theorem dX2_goThrough_14 : decode cX2_goThrough 14 = .ok (.aload_n 0, 1) := by decide +kernel
theorem dX2_goThrough_15 : decode cX2_goThrough 15 = .ok (.iload_n 1, 1) := by decide +kernel
theorem dX2_goThrough_16 : decode cX2_goThrough 16 = .ok (.bipush 6, 2) := by decide +kernel
theorem dX2_goThrough_18 : decode cX2_goThrough 18 = .ok (.aload_n 0, 1) := by decide +kernel
theorem dX2_goThrough_19 : decode cX2_goThrough 19 = .ok (.iload_n 1, 1) := by decide +kernel
theorem dX2_goThrough_20 : decode cX2_goThrough 20 = .ok (.invokevirtual 65, 3) := by decide +kernel
theorem dX2_goThrough_23 : decode cX2_goThrough 23 = .ok (.ifCond .ne 11, 3) := by decide +kernel
theorem dX2_goThrough_26 : decode cX2_goThrough 26 = .ok (.aload_n 0, 1) := by decide +kernel
theorem dX2_goThrough_27 : decode cX2_goThrough 27 = .ok (.iload_n 1, 1) := by decide +kernel
theorem dX2_goThrough_28 : decode cX2_goThrough 28 = .ok (.invokevirtual 82, 3) := by decide +kernel
theorem dX2_goThrough_31 : decode cX2_goThrough 31 = .ok (.ifCond .eq 7, 3) := by decide +kernel
theorem dX2_goThrough_34 : decode cX2_goThrough 34 = .ok (.iconst 0, 1) := by decide +kernel
theorem dX2_goThrough_35 : decode cX2_goThrough 35 = .ok (.goto 4, 3) := by decide +kernel
theorem dX2_goThrough_38 : decode cX2_goThrough 38 = .ok (.iconst 1, 1) := by decide +kernel
theorem dX2_goThrough_39 : decode cX2_goThrough 39 = .ok (.invokevirtual 61, 3) := by decide +kernel
theorem dX2_goThrough_42 : decode cX2_goThrough 42 = .ok (.iinc 1 1, 3) := by decide +kernel
theorem dX2_goThrough_45 : decode cX2_goThrough 45 = .ok (.goto (-39), 3) := by decide +kernel
theorem dX2_goThrough_48 : decode cX2_goThrough 48 = .ok (.aload_n 0, 1) := by decide +kernel
theorem dX2_goThrough_49 : decode cX2_goThrough 49 = .ok (.invokevirtual 85, 3) := by decide +kernel
theorem dX2_goThrough_52 : decode cX2_goThrough 52 = .ok (.return_, 1) := by decide +kernel
theorem dX2_beginAnew_0 : decode cX2_beginAnew 0 = .ok (.aload_n 0, 1) := by decide +kernel
theorem dX2_beginAnew_1 : decode cX2_beginAnew 1 = .ok (.getfield 27, 3) := by decide +kernel
theorem dX2_beginAnew_4 : decode cX2_beginAnew 4 = .ok (.iconst 0, 1) := by decide +kernel
theorem dX2_beginAnew_5 : decode cX2_beginAnew 5 = .ok (.invokestatic 88, 3) := by decide +kernel
theorem dX2_beginAnew_8 : decode cX2_beginAnew 8 = .ok (.aload_n 0, 1) := by decide +kernel
theorem dX2_beginAnew_9 : decode cX2_beginAnew 9 = .ok (.getfield 30, 3) := by decide +kernel
theorem dX2_beginAnew_12 : decode cX2_beginAnew 12 = .ok (.iconst 0, 1) := by decide +kernel
theorem dX2_beginAnew_13 : decode cX2_beginAnew 13 = .ok (.invokestatic 88, 3) := by decide +kernel
theorem dX2_beginAnew_16 : decode cX2_beginAnew 16 = .ok (.aload_n 0, 1) := by decide +kernel
theorem dX2_beginAnew_17 : decode cX2_beginAnew 17 = .ok (.getfield 33, 3) := by decide +kernel
theorem dX2_beginAnew_20 : decode cX2_beginAnew 20 = .ok (.iconst 0, 1) := by decide +kernel
theorem dX2_beginAnew_21 : decode cX2_beginAnew 21 = .ok (.invokestatic 88, 3) := by decide +kernel
theorem dX2_beginAnew_24 : decode cX2_beginAnew 24 = .ok (.iconst 0, 1) := by decide +kernel
theorem dX2_beginAnew_25 : decode cX2_beginAnew 25 = .ok (.istore_n 1, 1) := by decide +kernel
theorem dX2_beginAnew_26 : decode cX2_beginAnew 26 = .ok (.iload_n 1, 1) := by decide +kernel
theorem dX2_beginAnew_27 : decode cX2_beginAnew 27 = .ok (.iconst 5, 1) := by decide +kernel
theorem dX2_beginAnew_28 : decode cX2_beginAnew 28 = .ok (.if_icmp .ge 21, 3) := by decide +kernel
theorem dX2_beginAnew_31 : decode cX2_beginAnew 31 = .ok (.aload_n 0, 1) := by decide +kernel
theorem dX2_beginAnew_32 : decode cX2_beginAnew 32 = .ok (.getfield 27, 3) := by decide +kernel
theorem dX2_beginAnew_35 : decode cX2_beginAnew 35 = .ok (.iload_n 1, 1) := by decide +kernel
theorem dX2_beginAnew_36 : decode cX2_beginAnew 36 = .ok (.iconst 0, 1) := by decide +kernel
theorem dX2_beginAnew_37 : decode cX2_beginAnew 37 = .ok (.invokestatic 58, 3) := by decide +kernel
theorem dX2_beginAnew_40 : decode cX2_beginAnew 40 = .ok (.bipush 64, 2) := by decide +kernel
theorem dX2_beginAnew_42 : decode cX2_beginAnew 42 = .ok (.iastore, 1) := by decide +kernel
theorem dX2_beginAnew_43 : decode cX2_beginAnew 43 = .ok (.iinc 1 1, 3) := by decide +kernel
theorem dX2_beginAnew_46 : decode cX2_beginAnew 46 = .ok (.goto (-20), 3) := by decide +kernel
theorem dX2_beginAnew_49 : decode cX2_beginAnew 49 = .ok (.iconst 0, 1) := by decide +kernel
theorem dX2_beginAnew_50 : decode cX2_beginAnew 50 = .ok (.istore_n 1, 1) := by decide +kernel
theorem dX2_beginAnew_51 : decode cX2_beginAnew 51 = .ok (.iload_n 1, 1) := by decide +kernel
theorem dX2_beginAnew_52 : decode cX2_beginAnew 52 = .ok (.aload_n 0, 1) := by decide +kernel
theorem dX2_beginAnew_53 : decode cX2_beginAnew 53 = .ok (.getfield 42, 3) := by decide +kernel
theorem dX2_beginAnew_56 : decode cX2_beginAnew 56 = .ok (.if_icmp .ge 16, 3) := by decide +kernel
theorem dX2_beginAnew_59 : decode cX2_beginAnew 59 = .ok (.aload_n 0, 1) := by decide +kernel
theorem dX2_beginAnew_60 : decode cX2_beginAnew 60 = .ok (.getfield 17, 3) := by decide +kernel
theorem dX2_beginAnew_63 : decode cX2_beginAnew 63 = .ok (.iload_n 1, 1) := by decide +kernel
theorem dX2_beginAnew_64 : decode cX2_beginAnew 64 = .ok (.iconst 0, 1) := by decide +kernel
theorem dX2_beginAnew_65 : decode cX2_beginAnew 65 = .ok (.bastore, 1) := by decide +kernel
theorem dX2_beginAnew_66 : decode cX2_beginAnew 66 = .ok (.iinc 1 1, 3) := by decide +kernel
theorem dX2_beginAnew_69 : decode cX2_beginAnew 69 = .ok (.goto (-18), 3) := by decide +kernel
theorem dX2_beginAnew_72 : decode cX2_beginAnew 72 = .ok (.return_, 1) := by decide +kernel
theorem dX2_takesEffect_0 : decode cX2_takesEffect 0 = .ok (.aload_n 0, 1) := by decide +kernel
theorem dX2_takesEffect_1 : decode cX2_takesEffect 1 = .ok (.iload_n 1, 1) := by decide +kernel
theorem dX2_takesEffect_2 : decode cX2_takesEffect 2 = .ok (.iconst 0, 1) := by decide +kernel
theorem dX2_takesEffect_3 : decode cX2_takesEffect 3 = .ok (.invokevirtual 50, 3) := by decide +kernel
theorem dX2_takesEffect_6 : decode cX2_takesEffect 6 = .ok (.lookupswitch 38 #[(0, 26), (1, 32)], 26) := by decide +kernel
theorem dX2_takesEffect_32 : decode cX2_takesEffect 32 = .ok (.aload_n 0, 1) := by decide +kernel
theorem dX2_takesEffect_33 : decode cX2_takesEffect 33 = .ok (.iload_n 1, 1) := by decide +kernel
theorem dX2_takesEffect_34 : decode cX2_takesEffect 34 = .ok (.invokevirtual 94, 3) := by decide +kernel
theorem dX2_takesEffect_37 : decode cX2_takesEffect 37 = .ok (.ireturn, 1) := by decide +kernel
theorem dX2_takesEffect_38 : decode cX2_takesEffect 38 = .ok (.aload_n 0, 1) := by decide +kernel
theorem dX2_takesEffect_39 : decode cX2_takesEffect 39 = .ok (.iload_n 1, 1) := by decide +kernel
theorem dX2_takesEffect_40 : decode cX2_takesEffect 40 = .ok (.invokevirtual 97, 3) := by decide +kernel
theorem dX2_takesEffect_43 : decode cX2_takesEffect 43 = .ok (.ireturn, 1) := by decide +kernel
theorem dX2_takesEffect_44 : decode cX2_takesEffect 44 = .ok (.aload_n 0, 1) := by decide +kernel
theorem dX2_takesEffect_45 : decode cX2_takesEffect 45 = .ok (.aload_n 0, 1) := by decide +kernel
theorem dX2_takesEffect_46 : decode cX2_takesEffect 46 = .ok (.iload_n 1, 1) := by decide +kernel
theorem dX2_takesEffect_47 : decode cX2_takesEffect 47 = .ok (.bipush 8, 2) := by decide +kernel
theorem dX2_takesEffect_49 : decode cX2_takesEffect 49 = .ok (.invokevirtual 50, 3) := by decide +kernel
theorem dX2_takesEffect_52 : decode cX2_takesEffect 52 = .ok (.invokevirtual 100, 3) := by decide +kernel
theorem dX2_takesEffect_55 : decode cX2_takesEffect 55 = .ok (.ireturn, 1) := by decide +kernel
theorem dX2_bringParts_0 : decode cX2_bringParts 0 = .ok (.aload_n 0, 1) := by decide +kernel
theorem dX2_bringParts_1 : decode cX2_bringParts 1 = .ok (.getfield 21, 3) := by decide +kernel
theorem dX2_bringParts_4 : decode cX2_bringParts 4 = .ok (.iload_n 1, 1) := by decide +kernel
theorem dX2_bringParts_5 : decode cX2_bringParts 5 = .ok (.iaload, 1) := by decide +kernel
theorem dX2_bringParts_6 : decode cX2_bringParts 6 = .ok (.istore_n 2, 1) := by decide +kernel
theorem dX2_bringParts_7 : decode cX2_bringParts 7 = .ok (.aload_n 0, 1) := by decide +kernel
theorem dX2_bringParts_8 : decode cX2_bringParts 8 = .ok (.iload_n 1, 1) := by decide +kernel
theorem dX2_bringParts_9 : decode cX2_bringParts 9 = .ok (.iconst 4, 1) := by decide +kernel
theorem dX2_bringParts_10 : decode cX2_bringParts 10 = .ok (.invokevirtual 50, 3) := by decide +kernel
theorem dX2_bringParts_13 : decode cX2_bringParts 13 = .ok (.istore_n 3, 1) := by decide +kernel
theorem dX2_bringParts_14 : decode cX2_bringParts 14 = .ok (.iload_n 3, 1) := by decide +kernel
theorem dX2_bringParts_15 : decode cX2_bringParts 15 = .ok (.aload_n 0, 1) := by decide +kernel
theorem dX2_bringParts_16 : decode cX2_bringParts 16 = .ok (.iload_n 2, 1) := by decide +kernel
theorem dX2_bringParts_17 : decode cX2_bringParts 17 = .ok (.invokevirtual 69, 3) := by decide +kernel
theorem dX2_bringParts_20 : decode cX2_bringParts 20 = .ok (.if_icmp .le 5, 3) := by decide +kernel
theorem dX2_bringParts_23 : decode cX2_bringParts 23 = .ok (.iconst 0, 1) := by decide +kernel
theorem dX2_bringParts_24 : decode cX2_bringParts 24 = .ok (.ireturn, 1) := by decide +kernel
theorem dX2_bringParts_25 : decode cX2_bringParts 25 = .ok (.aload_n 0, 1) := by decide +kernel
theorem dX2_bringParts_26 : decode cX2_bringParts 26 = .ok (.getfield 27, 3) := by decide +kernel
theorem dX2_bringParts_29 : decode cX2_bringParts 29 = .ok (.iload_n 2, 1) := by decide +kernel
theorem dX2_bringParts_30 : decode cX2_bringParts 30 = .ok (.dup2, 1) := by decide +kernel
theorem dX2_bringParts_31 : decode cX2_bringParts 31 = .ok (.iaload, 1) := by decide +kernel
theorem dX2_bringParts_32 : decode cX2_bringParts 32 = .ok (.iload_n 3, 1) := by decide +kernel
theorem dX2_bringParts_33 : decode cX2_bringParts 33 = .ok (.isub, 1) := by decide +kernel
theorem dX2_bringParts_34 : decode cX2_bringParts 34 = .ok (.iastore, 1) := by decide +kernel
theorem dX2_bringParts_35 : decode cX2_bringParts 35 = .ok (.aload_n 0, 1) := by decide +kernel
theorem dX2_bringParts_36 : decode cX2_bringParts 36 = .ok (.getfield 27, 3) := by decide +kernel
theorem dX2_bringParts_39 : decode cX2_bringParts 39 = .ok (.aload_n 0, 1) := by decide +kernel
theorem dX2_bringParts_40 : decode cX2_bringParts 40 = .ok (.getfield 24, 3) := by decide +kernel
theorem dX2_bringParts_43 : decode cX2_bringParts 43 = .ok (.iload_n 1, 1) := by decide +kernel
theorem dX2_bringParts_44 : decode cX2_bringParts 44 = .ok (.iaload, 1) := by decide +kernel
theorem dX2_bringParts_45 : decode cX2_bringParts 45 = .ok (.dup2, 1) := by decide +kernel
theorem dX2_bringParts_46 : decode cX2_bringParts 46 = .ok (.iaload, 1) := by decide +kernel
theorem dX2_bringParts_47 : decode cX2_bringParts 47 = .ok (.iload_n 3, 1) := by decide +kernel
theorem dX2_bringParts_48 : decode cX2_bringParts 48 = .ok (.iadd, 1) := by decide +kernel
theorem dX2_bringParts_49 : decode cX2_bringParts 49 = .ok (.iastore, 1) := by decide +kernel
theorem dX2_bringParts_50 : decode cX2_bringParts 50 = .ok (.iconst 1, 1) := by decide +kernel
theorem dX2_bringParts_51 : decode cX2_bringParts 51 = .ok (.ireturn, 1) := by decide +kernel
theorem dX2_beginPledge_0 : decode cX2_beginPledge 0 = .ok (.aload_n 0, 1) := by decide +kernel
theorem dX2_beginPledge_1 : decode cX2_beginPledge 1 = .ok (.iload_n 1, 1) := by decide +kernel
theorem dX2_beginPledge_2 : decode cX2_beginPledge 2 = .ok (.iconst 4, 1) := by decide +kernel
theorem dX2_beginPledge_3 : decode cX2_beginPledge 3 = .ok (.invokevirtual 50, 3) := by decide +kernel
theorem dX2_beginPledge_6 : decode cX2_beginPledge 6 = .ok (.aload_n 0, 1) := by decide +kernel
theorem dX2_beginPledge_7 : decode cX2_beginPledge 7 = .ok (.aload_n 0, 1) := by decide +kernel
theorem dX2_beginPledge_8 : decode cX2_beginPledge 8 = .ok (.getfield 21, 3) := by decide +kernel
theorem dX2_beginPledge_11 : decode cX2_beginPledge 11 = .ok (.iload_n 1, 1) := by decide +kernel
theorem dX2_beginPledge_12 : decode cX2_beginPledge 12 = .ok (.iaload, 1) := by decide +kernel
theorem dX2_beginPledge_13 : decode cX2_beginPledge 13 = .ok (.invokevirtual 69, 3) := by decide +kernel
theorem dX2_beginPledge_16 : decode cX2_beginPledge 16 = .ok (.if_icmp .le 5, 3) := by decide +kernel
theorem dX2_beginPledge_19 : decode cX2_beginPledge 19 = .ok (.iconst 0, 1) := by decide +kernel
theorem dX2_beginPledge_20 : decode cX2_beginPledge 20 = .ok (.ireturn, 1) := by decide +kernel
theorem dX2_beginPledge_21 : decode cX2_beginPledge 21 = .ok (.aload_n 0, 1) := by decide +kernel
theorem dX2_beginPledge_22 : decode cX2_beginPledge 22 = .ok (.iload_n 1, 1) := by decide +kernel
theorem dX2_beginPledge_23 : decode cX2_beginPledge 23 = .ok (.iconst 1, 1) := by decide +kernel
theorem dX2_beginPledge_24 : decode cX2_beginPledge 24 = .ok (.invokevirtual 103, 3) := by decide +kernel
theorem dX2_beginPledge_27 : decode cX2_beginPledge 27 = .ok (.iconst 1, 1) := by decide +kernel
theorem dX2_beginPledge_28 : decode cX2_beginPledge 28 = .ok (.ireturn, 1) := by decide +kernel
theorem dX2_endPledge_0 : decode cX2_endPledge 0 = .ok (.aload_n 0, 1) := by decide +kernel
theorem dX2_endPledge_1 : decode cX2_endPledge 1 = .ok (.iload_n 1, 1) := by decide +kernel
theorem dX2_endPledge_2 : decode cX2_endPledge 2 = .ok (.invokevirtual 107, 3) := by decide +kernel
theorem dX2_endPledge_5 : decode cX2_endPledge 5 = .ok (.ifCond .eq 12, 3) := by decide +kernel
theorem dX2_endPledge_8 : decode cX2_endPledge 8 = .ok (.aload_n 0, 1) := by decide +kernel
theorem dX2_endPledge_9 : decode cX2_endPledge 9 = .ok (.getfield 17, 3) := by decide +kernel
theorem dX2_endPledge_12 : decode cX2_endPledge 12 = .ok (.iload_n 1, 1) := by decide +kernel
theorem dX2_endPledge_13 : decode cX2_endPledge 13 = .ok (.baload, 1) := by decide +kernel
theorem dX2_endPledge_14 : decode cX2_endPledge 14 = .ok (.ifCond .ne 5, 3) := by decide +kernel
theorem dX2_endPledge_17 : decode cX2_endPledge 17 = .ok (.iconst 0, 1) := by decide +kernel
theorem dX2_endPledge_18 : decode cX2_endPledge 18 = .ok (.ireturn, 1) := by decide +kernel
theorem dX2_endPledge_19 : decode cX2_endPledge 19 = .ok (.aload_n 0, 1) := by decide +kernel
theorem dX2_endPledge_20 : decode cX2_endPledge 20 = .ok (.iload_n 1, 1) := by decide +kernel
theorem dX2_endPledge_21 : decode cX2_endPledge 21 = .ok (.iconst 0, 1) := by decide +kernel
theorem dX2_endPledge_22 : decode cX2_endPledge 22 = .ok (.invokevirtual 103, 3) := by decide +kernel
theorem dX2_endPledge_25 : decode cX2_endPledge 25 = .ok (.iconst 1, 1) := by decide +kernel
theorem dX2_endPledge_26 : decode cX2_endPledge 26 = .ok (.ireturn, 1) := by decide +kernel
theorem dX2_setStanding_0 : decode cX2_setStanding 0 = .ok (.iload_n 2, 1) := by decide +kernel
theorem dX2_setStanding_1 : decode cX2_setStanding 1 = .ok (.ifCond .eq 12, 3) := by decide +kernel
theorem dX2_setStanding_4 : decode cX2_setStanding 4 = .ok (.aload_n 0, 1) := by decide +kernel
theorem dX2_setStanding_5 : decode cX2_setStanding 5 = .ok (.iload_n 1, 1) := by decide +kernel
theorem dX2_setStanding_6 : decode cX2_setStanding 6 = .ok (.iconst 4, 1) := by decide +kernel
theorem dX2_setStanding_7 : decode cX2_setStanding 7 = .ok (.invokevirtual 50, 3) := by decide +kernel
theorem dX2_setStanding_10 : decode cX2_setStanding 10 = .ok (.goto 10, 3) := by decide +kernel
theorem dX2_setStanding_13 : decode cX2_setStanding 13 = .ok (.aload_n 0, 1) := by decide +kernel
theorem dX2_setStanding_14 : decode cX2_setStanding 14 = .ok (.iload_n 1, 1) := by decide +kernel
theorem dX2_setStanding_15 : decode cX2_setStanding 15 = .ok (.iconst 4, 1) := by decide +kernel
theorem dX2_setStanding_16 : decode cX2_setStanding 16 = .ok (.invokevirtual 50, 3) := by decide +kernel
theorem dX2_setStanding_19 : decode cX2_setStanding 19 = .ok (.ineg, 1) := by decide +kernel
theorem dX2_setStanding_20 : decode cX2_setStanding 20 = .ok (.istore_n 3, 1) := by decide +kernel
theorem dX2_setStanding_21 : decode cX2_setStanding 21 = .ok (.aload_n 0, 1) := by decide +kernel
theorem dX2_setStanding_22 : decode cX2_setStanding 22 = .ok (.getfield 17, 3) := by decide +kernel
theorem dX2_setStanding_25 : decode cX2_setStanding 25 = .ok (.iload_n 1, 1) := by decide +kernel
theorem dX2_setStanding_26 : decode cX2_setStanding 26 = .ok (.iload_n 2, 1) := by decide +kernel
theorem dX2_setStanding_27 : decode cX2_setStanding 27 = .ok (.bastore, 1) := by decide +kernel
theorem dX2_setStanding_28 : decode cX2_setStanding 28 = .ok (.aload_n 0, 1) := by decide +kernel
theorem dX2_setStanding_29 : decode cX2_setStanding 29 = .ok (.getfield 30, 3) := by decide +kernel
theorem dX2_setStanding_32 : decode cX2_setStanding 32 = .ok (.aload_n 0, 1) := by decide +kernel
theorem dX2_setStanding_33 : decode cX2_setStanding 33 = .ok (.getfield 21, 3) := by decide +kernel
theorem dX2_setStanding_36 : decode cX2_setStanding 36 = .ok (.iload_n 1, 1) := by decide +kernel
theorem dX2_setStanding_37 : decode cX2_setStanding 37 = .ok (.iaload, 1) := by decide +kernel
theorem dX2_setStanding_38 : decode cX2_setStanding 38 = .ok (.dup2, 1) := by decide +kernel
theorem dX2_setStanding_39 : decode cX2_setStanding 39 = .ok (.iaload, 1) := by decide +kernel
theorem dX2_setStanding_40 : decode cX2_setStanding 40 = .ok (.iload_n 3, 1) := by decide +kernel
theorem dX2_setStanding_41 : decode cX2_setStanding 41 = .ok (.iadd, 1) := by decide +kernel
theorem dX2_setStanding_42 : decode cX2_setStanding 42 = .ok (.iastore, 1) := by decide +kernel
theorem dX2_setStanding_43 : decode cX2_setStanding 43 = .ok (.aload_n 0, 1) := by decide +kernel
theorem dX2_setStanding_44 : decode cX2_setStanding 44 = .ok (.getfield 33, 3) := by decide +kernel
theorem dX2_setStanding_47 : decode cX2_setStanding 47 = .ok (.aload_n 0, 1) := by decide +kernel
theorem dX2_setStanding_48 : decode cX2_setStanding 48 = .ok (.getfield 24, 3) := by decide +kernel
theorem dX2_setStanding_51 : decode cX2_setStanding 51 = .ok (.iload_n 1, 1) := by decide +kernel
theorem dX2_setStanding_52 : decode cX2_setStanding 52 = .ok (.iaload, 1) := by decide +kernel
theorem dX2_setStanding_53 : decode cX2_setStanding 53 = .ok (.dup2, 1) := by decide +kernel
theorem dX2_setStanding_54 : decode cX2_setStanding 54 = .ok (.iaload, 1) := by decide +kernel
theorem dX2_setStanding_55 : decode cX2_setStanding 55 = .ok (.iload_n 3, 1) := by decide +kernel
theorem dX2_setStanding_56 : decode cX2_setStanding 56 = .ok (.iadd, 1) := by decide +kernel
theorem dX2_setStanding_57 : decode cX2_setStanding 57 = .ok (.iastore, 1) := by decide +kernel
theorem dX2_setStanding_58 : decode cX2_setStanding 58 = .ok (.return_, 1) := by decide +kernel
theorem dX2_rankPledges_0 : decode cX2_rankPledges 0 = .ok (.aload_n 0, 1) := by decide +kernel
theorem dX2_rankPledges_1 : decode cX2_rankPledges 1 = .ok (.getfield 36, 3) := by decide +kernel
theorem dX2_rankPledges_4 : decode cX2_rankPledges 4 = .ok (.iconst 0, 1) := by decide +kernel
theorem dX2_rankPledges_5 : decode cX2_rankPledges 5 = .ok (.invokestatic 88, 3) := by decide +kernel
theorem dX2_rankPledges_8 : decode cX2_rankPledges 8 = .ok (.iconst 0, 1) := by decide +kernel
theorem dX2_rankPledges_9 : decode cX2_rankPledges 9 = .ok (.istore_n 1, 1) := by decide +kernel
theorem dX2_rankPledges_10 : decode cX2_rankPledges 10 = .ok (.iload_n 1, 1) := by decide +kernel
theorem dX2_rankPledges_11 : decode cX2_rankPledges 11 = .ok (.aload_n 0, 1) := by decide +kernel
theorem dX2_rankPledges_12 : decode cX2_rankPledges 12 = .ok (.getfield 42, 3) := by decide +kernel
theorem dX2_rankPledges_15 : decode cX2_rankPledges 15 = .ok (.if_icmp .ge 57, 3) := by decide +kernel
theorem dX2_rankPledges_18 : decode cX2_rankPledges 18 = .ok (.aload_n 0, 1) := by decide +kernel
theorem dX2_rankPledges_19 : decode cX2_rankPledges 19 = .ok (.iload_n 1, 1) := by decide +kernel
theorem dX2_rankPledges_20 : decode cX2_rankPledges 20 = .ok (.bipush 7, 2) := by decide +kernel
theorem dX2_rankPledges_22 : decode cX2_rankPledges 22 = .ok (.bipush (-4), 2) := by decide +kernel
theorem dX2_rankPledges_24 : decode cX2_rankPledges 24 = .ok (.invokevirtual 61, 3) := by decide +kernel
theorem dX2_rankPledges_27 : decode cX2_rankPledges 27 = .ok (.aload_n 0, 1) := by decide +kernel
theorem dX2_rankPledges_28 : decode cX2_rankPledges 28 = .ok (.getfield 17, 3) := by decide +kernel
theorem dX2_rankPledges_31 : decode cX2_rankPledges 31 = .ok (.iload_n 1, 1) := by decide +kernel
theorem dX2_rankPledges_32 : decode cX2_rankPledges 32 = .ok (.baload, 1) := by decide +kernel
theorem dX2_rankPledges_33 : decode cX2_rankPledges 33 = .ok (.ifCond .eq 33, 3) := by decide +kernel
theorem dX2_rankPledges_36 : decode cX2_rankPledges 36 = .ok (.aload_n 0, 1) := by decide +kernel
theorem dX2_rankPledges_37 : decode cX2_rankPledges 37 = .ok (.getfield 21, 3) := by decide +kernel
theorem dX2_rankPledges_40 : decode cX2_rankPledges 40 = .ok (.iload_n 1, 1) := by decide +kernel
theorem dX2_rankPledges_41 : decode cX2_rankPledges 41 = .ok (.iaload, 1) := by decide +kernel
theorem dX2_rankPledges_42 : decode cX2_rankPledges 42 = .ok (.istore_n 2, 1) := by decide +kernel
theorem dX2_rankPledges_43 : decode cX2_rankPledges 43 = .ok (.aload_n 0, 1) := by decide +kernel
theorem dX2_rankPledges_44 : decode cX2_rankPledges 44 = .ok (.iload_n 1, 1) := by decide +kernel
theorem dX2_rankPledges_45 : decode cX2_rankPledges 45 = .ok (.bipush 7, 2) := by decide +kernel
theorem dX2_rankPledges_47 : decode cX2_rankPledges 47 = .ok (.aload_n 0, 1) := by decide +kernel
theorem dX2_rankPledges_48 : decode cX2_rankPledges 48 = .ok (.getfield 36, 3) := by decide +kernel
theorem dX2_rankPledges_51 : decode cX2_rankPledges 51 = .ok (.iload_n 2, 1) := by decide +kernel
theorem dX2_rankPledges_52 : decode cX2_rankPledges 52 = .ok (.iaload, 1) := by decide +kernel
theorem dX2_rankPledges_53 : decode cX2_rankPledges 53 = .ok (.invokevirtual 61, 3) := by decide +kernel
theorem dX2_rankPledges_56 : decode cX2_rankPledges 56 = .ok (.aload_n 0, 1) := by decide +kernel
theorem dX2_rankPledges_57 : decode cX2_rankPledges 57 = .ok (.getfield 36, 3) := by decide +kernel
theorem dX2_rankPledges_60 : decode cX2_rankPledges 60 = .ok (.iload_n 2, 1) := by decide +kernel
theorem dX2_rankPledges_61 : decode cX2_rankPledges 61 = .ok (.dup2, 1) := by decide +kernel
theorem dX2_rankPledges_62 : decode cX2_rankPledges 62 = .ok (.iaload, 1) := by decide +kernel
theorem dX2_rankPledges_63 : decode cX2_rankPledges 63 = .ok (.iconst 1, 1) := by decide +kernel
theorem dX2_rankPledges_64 : decode cX2_rankPledges 64 = .ok (.iadd, 1) := by decide +kernel
theorem dX2_rankPledges_65 : decode cX2_rankPledges 65 = .ok (.iastore, 1) := by decide +kernel
theorem dX2_rankPledges_66 : decode cX2_rankPledges 66 = .ok (.iinc 1 1, 3) := by decide +kernel
theorem dX2_rankPledges_69 : decode cX2_rankPledges 69 = .ok (.goto (-59), 3) := by decide +kernel
theorem dX2_rankPledges_72 : decode cX2_rankPledges 72 = .ok (.return_, 1) := by decide +kernel
