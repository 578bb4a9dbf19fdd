theorem dX3_init_0 : decode cX3_init 0 = .ok (.aload_n 0, 1) := by decide +kernel
theorem dX3_init_1 : decode cX3_init 1 = .ok (.invokespecial 3, 3) := by decide +kernel
theorem dX3_init_4 : decode cX3_init 4 = .ok (.aload_n 0, 1) := by decide +kernel
theorem dX3_init_5 : decode cX3_init 5 = .ok (.bipush 8, 2) := by decide +kernel
theorem dX3_init_7 : decode cX3_init 7 = .ok (.newarray .int, 2) := by decide +kernel
theorem dX3_init_9 : decode cX3_init 9 = .ok (.putfield 11, 3) := by decide +kernel
theorem dX3_init_12 : decode cX3_init 12 = .ok (.aload_n 0, 1) := by decide +kernel
theorem dX3_init_13 : decode cX3_init 13 = .ok (.bipush 8, 2) := by decide +kernel
theorem dX3_init_15 : decode cX3_init 15 = .ok (.newarray .int, 2) := by decide +kernel
theorem dX3_init_17 : decode cX3_init 17 = .ok (.putfield 15, 3) := by decide +kernel
theorem dX3_init_20 : decode cX3_init 20 = .ok (.aload_n 0, 1) := by decide +kernel
theorem dX3_init_21 : decode cX3_init 21 = .ok (.bipush 8, 2) := by decide +kernel
theorem dX3_init_23 : decode cX3_init 23 = .ok (.newarray .int, 2) := by decide +kernel
theorem dX3_init_25 : decode cX3_init 25 = .ok (.putfield 18, 3) := by decide +kernel
theorem dX3_init_28 : decode cX3_init 28 = .ok (.aload_n 0, 1) := by decide +kernel
theorem dX3_init_29 : decode cX3_init 29 = .ok (.bipush 8, 2) := by decide +kernel
theorem dX3_init_31 : decode cX3_init 31 = .ok (.newarray .int, 2) := by decide +kernel
theorem dX3_init_33 : decode cX3_init 33 = .ok (.putfield 21, 3) := by decide +kernel
theorem dX3_init_36 : decode cX3_init 36 = .ok (.aload_n 0, 1) := by decide +kernel
theorem dX3_init_37 : decode cX3_init 37 = .ok (.bipush 8, 2) := by decide +kernel
theorem dX3_init_39 : decode cX3_init 39 = .ok (.newarray .int, 2) := by decide +kernel
theorem dX3_init_41 : decode cX3_init 41 = .ok (.putfield 24, 3) := by decide +kernel
theorem dX3_init_44 : decode cX3_init 44 = .ok (.aload_n 0, 1) := by decide +kernel
theorem dX3_init_45 : decode cX3_init 45 = .ok (.bipush 8, 2) := by decide +kernel
theorem dX3_init_47 : decode cX3_init 47 = .ok (.newarray .int, 2) := by decide +kernel
theorem dX3_init_49 : decode cX3_init 49 = .ok (.putfield 27, 3) := by decide +kernel
theorem dX3_init_52 : decode cX3_init 52 = .ok (.aload_n 0, 1) := by decide +kernel
theorem dX3_init_53 : decode cX3_init 53 = .ok (.bipush 8, 2) := by decide +kernel
theorem dX3_init_55 : decode cX3_init 55 = .ok (.newarray .int, 2) := by decide +kernel
theorem dX3_init_57 : decode cX3_init 57 = .ok (.putfield 30, 3) := by decide +kernel
theorem dX3_init_60 : decode cX3_init 60 = .ok (.aload_n 0, 1) := by decide +kernel
theorem dX3_init_61 : decode cX3_init 61 = .ok (.bipush 8, 2) := by decide +kernel
theorem dX3_init_63 : decode cX3_init 63 = .ok (.newarray .int, 2) := by decide +kernel
theorem dX3_init_65 : decode cX3_init 65 = .ok (.putfield 33, 3) := by decide +kernel
theorem dX3_init_68 : decode cX3_init 68 = .ok (.aload_n 0, 1) := by decide +kernel
theorem dX3_init_69 : decode cX3_init 69 = .ok (.bipush 8, 2) := by decide +kernel
theorem dX3_init_71 : decode cX3_init 71 = .ok (.newarray .int, 2) := by decide +kernel
theorem dX3_init_73 : decode cX3_init 73 = .ok (.putfield 36, 3) := by decide +kernel
theorem dX3_init_76 : decode cX3_init 76 = .ok (.return_, 1) := by decide +kernel
theorem dX3_size_0 : decode cX3_size 0 = .ok (.aload_n 0, 1) := by decide +kernel
theorem dX3_size_1 : decode cX3_size 1 = .ok (.getfield 39, 3) := by decide +kernel
theorem dX3_size_4 : decode cX3_size 4 = .ok (.ireturn, 1) := by decide +kernel
theorem dX3_witnesses_0 : decode cX3_witnesses 0 = .ok (.aload_n 0, 1) := by decide +kernel
theorem dX3_witnesses_1 : decode cX3_witnesses 1 = .ok (.getfield 43, 3) := by decide +kernel
theorem dX3_witnesses_4 : decode cX3_witnesses 4 = .ok (.ireturn, 1) := by decide +kernel
theorem dX3_has_0 : decode cX3_has 0 = .ok (.iload_n 1, 1) := by decide +kernel
theorem dX3_has_1 : decode cX3_has 1 = .ok (.iconst 0, 1) := by decide +kernel
theorem dX3_has_2 : decode cX3_has 2 = .ok (.aload_n 0, 1) := by decide +kernel
theorem dX3_has_3 : decode cX3_has 3 = .ok (.getfield 39, 3) := by decide +kernel
theorem dX3_has_6 : decode cX3_has 6 = .ok (.iconst 1, 1) := by decide +kernel
theorem dX3_has_7 : decode cX3_has 7 = .ok (.isub, 1) := by decide +kernel
theorem dX3_has_8 : decode cX3_has 8 = .ok (.invokestatic 46, 3) := by decide +kernel
theorem dX3_has_11 : decode cX3_has 11 = .ok (.ireturn, 1) := by decide +kernel
theorem dX3_areTwo_0 : decode cX3_areTwo 0 = .ok (.aload_n 0, 1) := by decide +kernel
theorem dX3_areTwo_1 : decode cX3_areTwo 1 = .ok (.iload_n 1, 1) := by decide +kernel
theorem dX3_areTwo_2 : decode cX3_areTwo 2 = .ok (.invokevirtual 50, 3) := by decide +kernel
theorem dX3_areTwo_5 : decode cX3_areTwo 5 = .ok (.ifCond .eq 20, 3) := by decide +kernel
theorem dX3_areTwo_8 : decode cX3_areTwo 8 = .ok (.aload_n 0, 1) := by decide +kernel
theorem dX3_areTwo_9 : decode cX3_areTwo 9 = .ok (.iload_n 2, 1) := by decide +kernel
theorem dX3_areTwo_10 : decode cX3_areTwo 10 = .ok (.invokevirtual 50, 3) := by decide +kernel
theorem dX3_areTwo_13 : decode cX3_areTwo 13 = .ok (.ifCond .eq 12, 3) := by decide +kernel
theorem dX3_areTwo_16 : decode cX3_areTwo 16 = .ok (.iload_n 1, 1) := by decide +kernel
theorem dX3_areTwo_17 : decode cX3_areTwo 17 = .ok (.iload_n 2, 1) := by decide +kernel
theorem dX3_areTwo_18 : decode cX3_areTwo 18 = .ok (.if_icmp .eq 7, 3) := by decide +kernel
theorem dX3_areTwo_21 : decode cX3_areTwo 21 = .ok (.iconst 1, 1) := by decide +kernel
theorem dX3_areTwo_22 : decode cX3_areTwo 22 = .ok (.goto 4, 3) := by decide +kernel
theorem dX3_areTwo_25 : decode cX3_areTwo 25 = .ok (.iconst 0, 1) := by decide +kernel
theorem dX3_areTwo_26 : decode cX3_areTwo 26 = .ok (.ireturn, 1) := by decide +kernel
theorem dX3_mayBeOne_0 : decode cX3_mayBeOne 0 = .ok (.iload_n 2, 1) := by decide +kernel
theorem dX3_mayBeOne_1 : decode cX3_mayBeOne 1 = .ok (.aload_n 0, 1) := by decide +kernel
theorem dX3_mayBeOne_2 : decode cX3_mayBeOne 2 = .ok (.getfield 27, 3) := by decide +kernel
theorem dX3_mayBeOne_5 : decode cX3_mayBeOne 5 = .ok (.iload_n 1, 1) := by decide +kernel
theorem dX3_mayBeOne_6 : decode cX3_mayBeOne 6 = .ok (.iaload, 1) := by decide +kernel
theorem dX3_mayBeOne_7 : decode cX3_mayBeOne 7 = .ok (.invokestatic 54, 3) := by decide +kernel
theorem dX3_mayBeOne_10 : decode cX3_mayBeOne 10 = .ok (.ireturn, 1) := by decide +kernel
theorem dX3_joinedGroup_0 : decode cX3_joinedGroup 0 = .ok (.aload_n 0, 1) := by decide +kernel
theorem dX3_joinedGroup_1 : decode cX3_joinedGroup 1 = .ok (.getfield 33, 3) := by decide +kernel
theorem dX3_joinedGroup_4 : decode cX3_joinedGroup 4 = .ok (.iload_n 1, 1) := by decide +kernel
theorem dX3_joinedGroup_5 : decode cX3_joinedGroup 5 = .ok (.iaload, 1) := by decide +kernel
theorem dX3_joinedGroup_6 : decode cX3_joinedGroup 6 = .ok (.ireturn, 1) := by decide +kernel
theorem dX3_joinedGroups_0 : decode cX3_joinedGroups 0 = .ok (.aload_n 0, 1) := by decide +kernel
theorem dX3_joinedGroups_1 : decode cX3_joinedGroups 1 = .ok (.getfield 58, 3) := by decide +kernel
theorem dX3_joinedGroups_4 : decode cX3_joinedGroups 4 = .ok (.ireturn, 1) := by decide +kernel
theorem dX3_add_0 : decode cX3_add 0 = .ok (.aload_n 0, 1) := by decide +kernel
theorem dX3_add_1 : decode cX3_add 1 = .ok (.getfield 39, 3) := by decide +kernel
theorem dX3_add_4 : decode cX3_add 4 = .ok (.bipush 8, 2) := by decide +kernel
theorem dX3_add_6 : decode cX3_add 6 = .ok (.if_icmp .lt 6, 3) := by decide +kernel
theorem dX3_add_9 : decode cX3_add 9 = .ok (.bipush (-2), 2) := by decide +kernel
theorem dX3_add_11 : decode cX3_add 11 = .ok (.ireturn, 1) := by decide +kernel
theorem dX3_add_12 : decode cX3_add 12 = .ok (.aload_n 0, 1) := by decide +kernel
theorem dX3_add_13 : decode cX3_add 13 = .ok (.getfield 11, 3) := by decide +kernel
theorem dX3_add_16 : decode cX3_add 16 = .ok (.aload_n 0, 1) := by decide +kernel
theorem dX3_add_17 : decode cX3_add 17 = .ok (.getfield 39, 3) := by decide +kernel
theorem dX3_add_20 : decode cX3_add 20 = .ok (.iload_n 1, 1) := by decide +kernel
theorem dX3_add_21 : decode cX3_add 21 = .ok (.iastore, 1) := by decide +kernel
theorem dX3_add_22 : decode cX3_add 22 = .ok (.aload_n 0, 1) := by decide +kernel
theorem dX3_add_23 : decode cX3_add 23 = .ok (.getfield 15, 3) := by decide +kernel
theorem dX3_add_26 : decode cX3_add 26 = .ok (.aload_n 0, 1) := by decide +kernel
theorem dX3_add_27 : decode cX3_add 27 = .ok (.getfield 39, 3) := by decide +kernel
theorem dX3_add_30 : decode cX3_add 30 = .ok (.iload_n 2, 1) := by decide +kernel
theorem dX3_add_31 : decode cX3_add 31 = .ok (.iastore, 1) := by decide +kernel
theorem dX3_add_32 : decode cX3_add 32 = .ok (.aload_n 0, 1) := by decide +kernel
theorem dX3_add_33 : decode cX3_add 33 = .ok (.getfield 18, 3) := by decide +kernel
theorem dX3_add_36 : decode cX3_add 36 = .ok (.aload_n 0, 1) := by decide +kernel
theorem dX3_add_37 : decode cX3_add 37 = .ok (.getfield 39, 3) := by decide +kernel
theorem dX3_add_40 : decode cX3_add 40 = .ok (.iload_n 3, 1) := by decide +kernel
theorem dX3_add_41 : decode cX3_add 41 = .ok (.iastore, 1) := by decide +kernel
theorem dX3_add_42 : decode cX3_add 42 = .ok (.aload_n 0, 1) := by decide +kernel
theorem dX3_add_43 : decode cX3_add 43 = .ok (.getfield 21, 3) := by decide +kernel
theorem dX3_add_46 : decode cX3_add 46 = .ok (.aload_n 0, 1) := by decide +kernel
theorem dX3_add_47 : decode cX3_add 47 = .ok (.getfield 39, 3) := by decide +kernel
theorem dX3_add_50 : decode cX3_add 50 = .ok (.iload 4, 2) := by decide +kernel
theorem dX3_add_52 : decode cX3_add 52 = .ok (.iastore, 1) := by decide +kernel
theorem dX3_add_53 : decode cX3_add 53 = .ok (.aload_n 0, 1) := by decide +kernel
theorem dX3_add_54 : decode cX3_add 54 = .ok (.getfield 24, 3) := by decide +kernel
theorem dX3_add_57 : decode cX3_add 57 = .ok (.aload_n 0, 1) := by decide +kernel
theorem dX3_add_58 : decode cX3_add 58 = .ok (.getfield 39, 3) := by decide +kernel
theorem dX3_add_61 : decode cX3_add 61 = .ok (.iload 5, 2) := by decide +kernel
theorem dX3_add_63 : decode cX3_add 63 = .ok (.iastore, 1) := by decide +kernel
theorem dX3_add_64 : decode cX3_add 64 = .ok (.iconst 0, 1) := by decide +kernel
theorem dX3_add_65 : decode cX3_add 65 = .ok (.istore 6, 2) := by decide +kernel
theorem dX3_add_67 : decode cX3_add 67 = .ok (.iload 6, 2) := by decide +kernel
theorem dX3_add_69 : decode cX3_add 69 = .ok (.aload_n 0, 1) := by decide +kernel
theorem dX3_add_70 : decode cX3_add 70 = .ok (.getfield 39, 3) := by decide +kernel
theorem dX3_add_73 : decode cX3_add 73 = .ok (.if_icmp .ge 29, 3) := by decide +kernel
theorem dX3_add_76 : decode cX3_add 76 = .ok (.aload_n 0, 1) := by decide +kernel
theorem dX3_add_77 : decode cX3_add 77 = .ok (.iload 6, 2) := by decide +kernel
theorem dX3_add_79 : decode cX3_add 79 = .ok (.aload_n 0, 1) := by decide +kernel
theorem dX3_add_80 : decode cX3_add 80 = .ok (.getfield 39, 3) := by decide +kernel
theorem dX3_add_83 : decode cX3_add 83 = .ok (.aload_n 0, 1) := by decide +kernel
theorem dX3_add_84 : decode cX3_add 84 = .ok (.iload 6, 2) := by decide +kernel
theorem dX3_add_86 : decode cX3_add 86 = .ok (.aload_n 0, 1) := by decide +kernel
theorem dX3_add_87 : decode cX3_add 87 = .ok (.getfield 39, 3) := by decide +kernel
theorem dX3_add_90 : decode cX3_add 90 = .ok (.invokevirtual 61, 3) := by decide +kernel
theorem dX3_add_93 : decode cX3_add 93 = .ok (.invokevirtual 64, 3) := by decide +kernel
theorem dX3_add_96 : decode cX3_add 96 = .ok (.iinc 6 1, 3) := by decide +kernel
theorem dX3_add_99 : decode cX3_add 99 = .ok (.goto (-32), 3) := by decide +kernel
theorem dX3_add_102 : decode cX3_add 102 = .ok (.aload_n 0, 1) := by decide +kernel
theorem dX3_add_103 : decode cX3_add 103 = .ok (.dup, 1) := by decide +kernel
theorem dX3_add_104 : decode cX3_add 104 = .ok (.getfield 39, 3) := by decide +kernel
theorem dX3_add_107 : decode cX3_add 107 = .ok (.iconst 1, 1) := by decide +kernel
theorem dX3_add_108 : decode cX3_add 108 = .ok (.iadd, 1) := by decide +kernel
theorem dX3_add_109 : decode cX3_add 109 = .ok (.putfield 39, 3) := by decide +kernel
theorem dX3_add_112 : decode cX3_add 112 = .ok (.aload_n 0, 1) := by decide +kernel
theorem dX3_add_113 : decode cX3_add 113 = .ok (.invokevirtual 68, 3) := by decide +kernel
theorem dX3_add_116 : decode cX3_add 116 = .ok (.aload_n 0, 1) := by decide +kernel
theorem dX3_add_117 : decode cX3_add 117 = .ok (.getfield 39, 3) := by decide +kernel
theorem dX3_add_120 : decode cX3_add 120 = .ok (.iconst 1, 1) := by decide +kernel
theorem dX3_add_121 : decode cX3_add 121 = .ok (.isub, 1) := by decide +kernel
theorem dX3_add_122 : decode cX3_add 122 = .ok (.ireturn, 1) := by decide +kernel
theorem dX3_hear_0 : decode cX3_hear 0 = .ok (.iload_n 2, 1) := by decide +kernel
theorem dX3_hear_1 : decode cX3_hear 1 = .ok (.aload_n 0, 1) := by decide +kernel
theorem dX3_hear_2 : decode cX3_hear 2 = .ok (.getfield 30, 3) := by decide +kernel
theorem dX3_hear_5 : decode cX3_hear 5 = .ok (.iload_n 1, 1) := by decide +kernel
theorem dX3_hear_6 : decode cX3_hear 6 = .ok (.iaload, 1) := by decide +kernel
theorem dX3_hear_7 : decode cX3_hear 7 = .ok (.invokestatic 54, 3) := by decide +kernel
theorem dX3_hear_10 : decode cX3_hear 10 = .ok (.ifCond .eq 6, 3) := by decide +kernel
theorem dX3_hear_13 : decode cX3_hear 13 = .ok (.bipush (-3), 2) := by decide +kernel
theorem dX3_hear_15 : decode cX3_hear 15 = .ok (.ireturn, 1) := by decide +kernel
theorem dX3_hear_16 : decode cX3_hear 16 = .ok (.aload_n 0, 1) := by decide +kernel
theorem dX3_hear_17 : decode cX3_hear 17 = .ok (.getfield 43, 3) := by decide +kernel
theorem dX3_hear_20 : decode cX3_hear 20 = .ok (.bipush 6, 2) := by decide +kernel
theorem dX3_hear_22 : decode cX3_hear 22 = .ok (.if_icmp .lt 6, 3) := by decide +kernel
theorem dX3_hear_25 : decode cX3_hear 25 = .ok (.bipush (-2), 2) := by decide +kernel
theorem dX3_hear_27 : decode cX3_hear 27 = .ok (.ireturn, 1) := by decide +kernel
theorem dX3_hear_28 : decode cX3_hear 28 = .ok (.aload_n 0, 1) := by decide +kernel
theorem dX3_hear_29 : decode cX3_hear 29 = .ok (.getfield 30, 3) := by decide +kernel
theorem dX3_hear_32 : decode cX3_hear 32 = .ok (.iload_n 1, 1) := by decide +kernel
theorem dX3_hear_33 : decode cX3_hear 33 = .ok (.dup2, 1) := by decide +kernel
theorem dX3_hear_34 : decode cX3_hear 34 = .ok (.iaload, 1) := by decide +kernel
theorem dX3_hear_35 : decode cX3_hear 35 = .ok (.iconst 1, 1) := by decide +kernel
theorem dX3_hear_36 : decode cX3_hear 36 = .ok (.iload_n 2, 1) := by decide +kernel
theorem dX3_hear_37 : decode cX3_hear 37 = .ok (.ishl, 1) := by decide +kernel
theorem dX3_hear_38 : decode cX3_hear 38 = .ok (.ior, 1) := by decide +kernel
theorem dX3_hear_39 : decode cX3_hear 39 = .ok (.iastore, 1) := by decide +kernel
theorem dX3_hear_40 : decode cX3_hear 40 = .ok (.aload_n 0, 1) := by decide +kernel
theorem dX3_hear_41 : decode cX3_hear 41 = .ok (.getfield 30, 3) := by decide +kernel
theorem dX3_hear_44 : decode cX3_hear 44 = .ok (.iload_n 2, 1) := by decide +kernel
theorem dX3_hear_45 : decode cX3_hear 45 = .ok (.dup2, 1) := by decide +kernel
theorem dX3_hear_46 : decode cX3_hear 46 = .ok (.iaload, 1) := by decide +kernel
theorem dX3_hear_47 : decode cX3_hear 47 = .ok (.iconst 1, 1) := by decide +kernel
theorem dX3_hear_48 : decode cX3_hear 48 = .ok (.iload_n 1, 1) := by decide +kernel
theorem dX3_hear_49 : decode cX3_hear 49 = .ok (.ishl, 1) := by decide +kernel
theorem dX3_hear_50 : decode cX3_hear 50 = .ok (.ior, 1) := by decide +kernel
theorem dX3_hear_51 : decode cX3_hear 51 = .ok (.iastore, 1) := by decide +kernel
theorem dX3_hear_52 : decode cX3_hear 52 = .ok (.aload_n 0, 1) := by decide +kernel
theorem dX3_hear_53 : decode cX3_hear 53 = .ok (.dup, 1) := by decide +kernel
theorem dX3_hear_54 : decode cX3_hear 54 = .ok (.getfield 43, 3) := by decide +kernel
theorem dX3_hear_57 : decode cX3_hear 57 = .ok (.iconst 1, 1) := by decide +kernel
theorem dX3_hear_58 : decode cX3_hear 58 = .ok (.iadd, 1) := by decide +kernel
theorem dX3_hear_59 : decode cX3_hear 59 = .ok (.putfield 43, 3) := by decide +kernel
theorem dX3_hear_62 : decode cX3_hear 62 = .ok (.aload_n 0, 1) := by decide +kernel
theorem dX3_hear_63 : decode cX3_hear 63 = .ok (.iload_n 1, 1) := by decide +kernel
theorem dX3_hear_64 : decode cX3_hear 64 = .ok (.iload_n 2, 1) := by decide +kernel
theorem dX3_hear_65 : decode cX3_hear 65 = .ok (.iload_n 3, 1) := by decide +kernel
theorem dX3_hear_66 : decode cX3_hear 66 = .ok (.invokevirtual 64, 3) := by decide +kernel
theorem dX3_hear_69 : decode cX3_hear 69 = .ok (.aload_n 0, 1) := by decide +kernel
theorem dX3_hear_70 : decode cX3_hear 70 = .ok (.invokevirtual 68, 3) := by decide +kernel
theorem dX3_hear_73 : decode cX3_hear 73 = .ok (.aload_n 0, 1) := by decide +kernel
theorem dX3_hear_74 : decode cX3_hear 74 = .ok (.getfield 43, 3) := by decide +kernel
theorem dX3_hear_77 : decode cX3_hear 77 = .ok (.ireturn, 1) := by decide +kernel
theorem dX3_isIn_0 : decode cX3_isIn 0 = .ok (.iload_n 1, 1) := by decide +kernel
theorem dX3_isIn_1 : decode cX3_isIn 1 = .ok (.iload_n 0, 1) := by decide +kernel
theorem dX3_isIn_2 : decode cX3_isIn 2 = .ok (.ishr, 1) := by decide +kernel
theorem dX3_isIn_3 : decode cX3_isIn 3 = .ok (.iconst 1, 1) := by decide +kernel
theorem dX3_isIn_4 : decode cX3_isIn 4 = .ok (.iand, 1) := by decide +kernel
theorem dX3_isIn_5 : decode cX3_isIn 5 = .ok (.iconst 1, 1) := by decide +kernel
theorem dX3_isIn_6 : decode cX3_isIn 6 = .ok (.if_icmp .ne 7, 3) := by decide +kernel
theorem dX3_isIn_9 : decode cX3_isIn 9 = .ok (.iconst 1, 1) := by decide +kernel
theorem dX3_isIn_10 : decode cX3_isIn 10 = .ok (.goto 4, 3) := by decide +kernel
theorem dX3_isIn_13 : decode cX3_isIn 13 = .ok (.iconst 0, 1) := by decide +kernel
theorem dX3_isIn_14 : decode cX3_isIn 14 = .ok (.ireturn, 1) := by decide +kernel
theorem dX3_setLike_0 : decode cX3_setLike 0 = .ok (.aload_n 0, 1) := by decide +kernel
theorem dX3_setLike_1 : decode cX3_setLike 1 = .ok (.getfield 27, 3) := by decide +kernel
theorem dX3_setLike_4 : decode cX3_setLike 4 = .ok (.iload_n 1, 1) := by decide +kernel
theorem dX3_setLike_5 : decode cX3_setLike 5 = .ok (.iload_n 3, 1) := by decide +kernel
theorem dX3_setLike_6 : decode cX3_setLike 6 = .ok (.ifCond .eq 16, 3) := by decide +kernel
theorem dX3_setLike_9 : decode cX3_setLike 9 = .ok (.aload_n 0, 1) := by decide +kernel
theorem dX3_setLike_10 : decode cX3_setLike 10 = .ok (.getfield 27, 3) := by decide +kernel
theorem dX3_setLike_13 : decode cX3_setLike 13 = .ok (.iload_n 1, 1) := by decide +kernel
theorem dX3_setLike_14 : decode cX3_setLike 14 = .ok (.iaload, 1) := by decide +kernel
theorem dX3_setLike_15 : decode cX3_setLike 15 = .ok (.iconst 1, 1) := by decide +kernel
theorem dX3_setLike_16 : decode cX3_setLike 16 = .ok (.iload_n 2, 1) := by decide +kernel
theorem dX3_setLike_17 : decode cX3_setLike 17 = .ok (.ishl, 1) := by decide +kernel
theorem dX3_setLike_18 : decode cX3_setLike 18 = .ok (.ior, 1) := by decide +kernel
theorem dX3_setLike_19 : decode cX3_setLike 19 = .ok (.goto 15, 3) := by decide +kernel
theorem dX3_setLike_22 : decode cX3_setLike 22 = .ok (.aload_n 0, 1) := by decide +kernel
theorem dX3_setLike_23 : decode cX3_setLike 23 = .ok (.getfield 27, 3) := by decide +kernel
theorem dX3_setLike_26 : decode cX3_setLike 26 = .ok (.iload_n 1, 1) := by decide +kernel
theorem dX3_setLike_27 : decode cX3_setLike 27 = .ok (.iaload, 1) := by decide +kernel
theorem dX3_setLike_28 : decode cX3_setLike 28 = .ok (.iconst 1, 1) := by decide +kernel
theorem dX3_setLike_29 : decode cX3_setLike 29 = .ok (.iload_n 2, 1) := by decide +kernel
theorem dX3_setLike_30 : decode cX3_setLike 30 = .ok (.ishl, 1) := by decide +kernel
theorem dX3_setLike_31 : decode cX3_setLike 31 = .ok (.iconst (-1), 1) := by decide +kernel
theorem dX3_setLike_32 : decode cX3_setLike 32 = .ok (.ixor, 1) := by decide +kernel
theorem dX3_setLike_33 : decode cX3_setLike 33 = .ok (.iand, 1) := by decide +kernel
theorem dX3_setLike_34 : decode cX3_setLike 34 = .ok (.iastore, 1) := by decide +kernel
theorem dX3_setLike_35 : decode cX3_setLike 35 = .ok (.aload_n 0, 1) := by decide +kernel
theorem dX3_setLike_36 : decode cX3_setLike 36 = .ok (.getfield 27, 3) := by decide +kernel
theorem dX3_setLike_39 : decode cX3_setLike 39 = .ok (.iload_n 2, 1) := by decide +kernel
theorem dX3_setLike_40 : decode cX3_setLike 40 = .ok (.iload_n 3, 1) := by decide +kernel
theorem dX3_setLike_41 : decode cX3_setLike 41 = .ok (.ifCond .eq 16, 3) := by decide +kernel
theorem dX3_setLike_44 : decode cX3_setLike 44 = .ok (.aload_n 0, 1) := by decide +kernel
theorem dX3_setLike_45 : decode cX3_setLike 45 = .ok (.getfield 27, 3) := by decide +kernel
theorem dX3_setLike_48 : decode cX3_setLike 48 = .ok (.iload_n 2, 1) := by decide +kernel
theorem dX3_setLike_49 : decode cX3_setLike 49 = .ok (.iaload, 1) := by decide +kernel
theorem dX3_setLike_50 : decode cX3_setLike 50 = .ok (.iconst 1, 1) := by decide +kernel
theorem dX3_setLike_51 : decode cX3_setLike 51 = .ok (.iload_n 1, 1) := by decide +kernel
theorem dX3_setLike_52 : decode cX3_setLike 52 = .ok (.ishl, 1) := by decide +kernel
theorem dX3_setLike_53 : decode cX3_setLike 53 = .ok (.ior, 1) := by decide +kernel
theorem dX3_setLike_54 : decode cX3_setLike 54 = .ok (.goto 15, 3) := by decide +kernel
theorem dX3_setLike_57 : decode cX3_setLike 57 = .ok (.aload_n 0, 1) := by decide +kernel
theorem dX3_setLike_58 : decode cX3_setLike 58 = .ok (.getfield 27, 3) := by decide +kernel
theorem dX3_setLike_61 : decode cX3_setLike 61 = .ok (.iload_n 2, 1) := by decide +kernel
theorem dX3_setLike_62 : decode cX3_setLike 62 = .ok (.iaload, 1) := by decide +kernel
theorem dX3_setLike_63 : decode cX3_setLike 63 = .ok (.iconst 1, 1) := by decide +kernel
theorem dX3_setLike_64 : decode cX3_setLike 64 = .ok (.iload_n 1, 1) := by decide +kernel
theorem dX3_setLike_65 : decode cX3_setLike 65 = .ok (.ishl, 1) := by decide +kernel
theorem dX3_setLike_66 : decode cX3_setLike 66 = .ok (.iconst (-1), 1) := by decide +kernel
theorem dX3_setLike_67 : decode cX3_setLike 67 = .ok (.ixor, 1) := by decide +kernel
theorem dX3_setLike_68 : decode cX3_setLike 68 = .ok (.iand, 1) := by decide +kernel
theorem dX3_setLike_69 : decode cX3_setLike 69 = .ok (.iastore, 1) := by decide +kernel
theorem dX3_setLike_70 : decode cX3_setLike 70 = .ok (.return_, 1) := by decide +kernel
theorem dX3_seemAlike_0 : decode cX3_seemAlike 0 = .ok (.aload_n 0, 1) := by decide +kernel
theorem dX3_seemAlike_1 : decode cX3_seemAlike 1 = .ok (.getfield 11, 3) := by decide +kernel
theorem dX3_seemAlike_4 : decode cX3_seemAlike 4 = .ok (.iload_n 1, 1) := by decide +kernel
theorem dX3_seemAlike_5 : decode cX3_seemAlike 5 = .ok (.iaload, 1) := by decide +kernel
theorem dX3_seemAlike_6 : decode cX3_seemAlike 6 = .ok (.aload_n 0, 1) := by decide +kernel
theorem dX3_seemAlike_7 : decode cX3_seemAlike 7 = .ok (.getfield 15, 3) := by decide +kernel
theorem dX3_seemAlike_10 : decode cX3_seemAlike 10 = .ok (.iload_n 2, 1) := by decide +kernel
theorem dX3_seemAlike_11 : decode cX3_seemAlike 11 = .ok (.iaload, 1) := by decide +kernel
theorem dX3_seemAlike_12 : decode cX3_seemAlike 12 = .ok (.if_icmp .gt 22, 3) := by decide +kernel
theorem dX3_seemAlike_15 : decode cX3_seemAlike 15 = .ok (.aload_n 0, 1) := by decide +kernel
theorem dX3_seemAlike_16 : decode cX3_seemAlike 16 = .ok (.getfield 11, 3) := by decide +kernel
theorem dX3_seemAlike_19 : decode cX3_seemAlike 19 = .ok (.iload_n 2, 1) := by decide +kernel
theorem dX3_seemAlike_20 : decode cX3_seemAlike 20 = .ok (.iaload, 1) := by decide +kernel
theorem dX3_seemAlike_21 : decode cX3_seemAlike 21 = .ok (.aload_n 0, 1) := by decide +kernel
theorem dX3_seemAlike_22 : decode cX3_seemAlike 22 = .ok (.getfield 15, 3) := by decide +kernel
theorem dX3_seemAlike_25 : decode cX3_seemAlike 25 = .ok (.iload_n 1, 1) := by decide +kernel
theorem dX3_seemAlike_26 : decode cX3_seemAlike 26 = .ok (.iaload, 1) := by decide +kernel
theorem dX3_seemAlike_27 : decode cX3_seemAlike 27 = .ok (.if_icmp .gt 7, 3) := by decide +kernel
theorem dX3_seemAlike_30 : decode cX3_seemAlike 30 = .ok (.iconst 1, 1) := by decide +kernel
theorem dX3_seemAlike_31 : decode cX3_seemAlike 31 = .ok (.goto 4, 3) := by decide +kernel
theorem dX3_seemAlike_34 : decode cX3_seemAlike 34 = .ok (.iconst 0, 1) := by decide +kernel
theorem dX3_seemAlike_35 : decode cX3_seemAlike 35 = .ok (.istore_n 3, 1) := by decide +kernel
theorem dX3_seemAlike_36 : decode cX3_seemAlike 36 = .ok (.aload_n 0, 1) := by decide +kernel
theorem dX3_seemAlike_37 : decode cX3_seemAlike 37 = .ok (.getfield 18, 3) := by decide +kernel
theorem dX3_seemAlike_40 : decode cX3_seemAlike 40 = .ok (.iload_n 1, 1) := by decide +kernel
theorem dX3_seemAlike_41 : decode cX3_seemAlike 41 = .ok (.iaload, 1) := by decide +kernel
theorem dX3_seemAlike_42 : decode cX3_seemAlike 42 = .ok (.aload_n 0, 1) := by decide +kernel
theorem dX3_seemAlike_43 : decode cX3_seemAlike 43 = .ok (.getfield 21, 3) := by decide +kernel
theorem dX3_seemAlike_46 : decode cX3_seemAlike 46 = .ok (.iload_n 2, 1) := by decide +kernel
theorem dX3_seemAlike_47 : decode cX3_seemAlike 47 = .ok (.iaload, 1) := by decide +kernel
theorem dX3_seemAlike_48 : decode cX3_seemAlike 48 = .ok (.if_icmp .gt 22, 3) := by decide +kernel
theorem dX3_seemAlike_51 : decode cX3_seemAlike 51 = .ok (.aload_n 0, 1) := by decide +kernel
theorem dX3_seemAlike_52 : decode cX3_seemAlike 52 = .ok (.getfield 18, 3) := by decide +kernel
theorem dX3_seemAlike_55 : decode cX3_seemAlike 55 = .ok (.iload_n 2, 1) := by decide +kernel
theorem dX3_seemAlike_56 : decode cX3_seemAlike 56 = .ok (.iaload, 1) := by decide +kernel
theorem dX3_seemAlike_57 : decode cX3_seemAlike 57 = .ok (.aload_n 0, 1) := by decide +kernel
theorem dX3_seemAlike_58 : decode cX3_seemAlike 58 = .ok (.getfield 21, 3) := by decide +kernel
theorem dX3_seemAlike_61 : decode cX3_seemAlike 61 = .ok (.iload_n 1, 1) := by decide +kernel
theorem dX3_seemAlike_62 : decode cX3_seemAlike 62 = .ok (.iaload, 1) := by decide +kernel
theorem dX3_seemAlike_63 : decode cX3_seemAlike 63 = .ok (.if_icmp .gt 7, 3) := by decide +kernel
theorem dX3_seemAlike_66 : decode cX3_seemAlike 66 = .ok (.iconst 1, 1) := by decide +kernel
theorem dX3_seemAlike_67 : decode cX3_seemAlike 67 = .ok (.goto 4, 3) := by decide +kernel
theorem dX3_seemAlike_70 : decode cX3_seemAlike 70 = .ok (.iconst 0, 1) := by decide +kernel
theorem dX3_seemAlike_71 : decode cX3_seemAlike 71 = .ok (.istore 4, 2) := by decide +kernel
theorem dX3_seemAlike_73 : decode cX3_seemAlike 73 = .ok (.aload_n 0, 1) := by decide +kernel
theorem dX3_seemAlike_74 : decode cX3_seemAlike 74 = .ok (.getfield 24, 3) := by decide +kernel
theorem dX3_seemAlike_77 : decode cX3_seemAlike 77 = .ok (.iload_n 1, 1) := by decide +kernel
theorem dX3_seemAlike_78 : decode cX3_seemAlike 78 = .ok (.iaload, 1) := by decide +kernel
theorem dX3_seemAlike_79 : decode cX3_seemAlike 79 = .ok (.aload_n 0, 1) := by decide +kernel
theorem dX3_seemAlike_80 : decode cX3_seemAlike 80 = .ok (.getfield 24, 3) := by decide +kernel
theorem dX3_seemAlike_83 : decode cX3_seemAlike 83 = .ok (.iload_n 2, 1) := by decide +kernel
theorem dX3_seemAlike_84 : decode cX3_seemAlike 84 = .ok (.iaload, 1) := by decide +kernel
theorem dX3_seemAlike_85 : decode cX3_seemAlike 85 = .ok (.if_icmp .eq 21, 3) := by decide +kernel
theorem dX3_seemAlike_88 : decode cX3_seemAlike 88 = .ok (.aload_n 0, 1) := by decide +kernel
theorem dX3_seemAlike_89 : decode cX3_seemAlike 89 = .ok (.getfield 24, 3) := by decide +kernel
theorem dX3_seemAlike_92 : decode cX3_seemAlike 92 = .ok (.iload_n 1, 1) := by decide +kernel
theorem dX3_seemAlike_93 : decode cX3_seemAlike 93 = .ok (.iaload, 1) := by decide +kernel
theorem dX3_seemAlike_94 : decode cX3_seemAlike 94 = .ok (.ifCond .eq 12, 3) := by decide +kernel
theorem dX3_seemAlike_97 : decode cX3_seemAlike 97 = .ok (.aload_n 0, 1) := by decide +kernel
theorem dX3_seemAlike_98 : decode cX3_seemAlike 98 = .ok (.getfield 24, 3) := by decide +kernel
theorem dX3_seemAlike_101 : decode cX3_seemAlike 101 = .ok (.iload_n 2, 1) := by decide +kernel
theorem dX3_seemAlike_102 : decode cX3_seemAlike 102 = .ok (.iaload, 1) := by decide +kernel
theorem dX3_seemAlike_103 : decode cX3_seemAlike 103 = .ok (.ifCond .ne 7, 3) := by decide +kernel
theorem dX3_seemAlike_106 : decode cX3_seemAlike 106 = .ok (.iconst 1, 1) := by decide +kernel
theorem dX3_seemAlike_107 : decode cX3_seemAlike 107 = .ok (.goto 4, 3) := by decide +kernel
theorem dX3_seemAlike_110 : decode cX3_seemAlike 110 = .ok (.iconst 0, 1) := by decide +kernel
theorem dX3_seemAlike_111 : decode cX3_seemAlike 111 = .ok (.istore 5, 2) := by decide +kernel
theorem dX3_seemAlike_113 : decode cX3_seemAlike 113 = .ok (.iload_n 3, 1) := by decide +kernel
theorem dX3_seemAlike_114 : decode cX3_seemAlike 114 = .ok (.ifCond .ne 17, 3) := by decide +kernel
theorem dX3_seemAlike_117 : decode cX3_seemAlike 117 = .ok (.iload 4, 2) := by decide +kernel
theorem dX3_seemAlike_119 : decode cX3_seemAlike 119 = .ok (.ifCond .eq 12, 3) := by decide +kernel
theorem dX3_seemAlike_122 : decode cX3_seemAlike 122 = .ok (.iload 5, 2) := by decide +kernel
theorem dX3_seemAlike_124 : decode cX3_seemAlike 124 = .ok (.ifCond .eq 7, 3) := by decide +kernel
theorem dX3_seemAlike_127 : decode cX3_seemAlike 127 = .ok (.iconst 1, 1) := by decide +kernel
theorem dX3_seemAlike_128 : decode cX3_seemAlike 128 = .ok (.goto 4, 3) := by decide +kernel
theorem dX3_seemAlike_131 : decode cX3_seemAlike 131 = .ok (.iconst 0, 1) := by decide +kernel
theorem dX3_seemAlike_132 : decode cX3_seemAlike 132 = .ok (.ireturn, 1) := by decide +kernel
theorem dX3_joinAnew_0 : decode cX3_joinAnew 0 = .ok (.iconst 1, 1) := by decide +kernel
theorem dX3_joinAnew_1 : decode cX3_joinAnew 1 = .ok (.istore_n 1, 1) := by decide +kernel
theorem dX3_joinAnew_2 : decode cX3_joinAnew 2 = .ok (.iload_n 1, 1) := by decide +kernel
theorem dX3_joinAnew_3 : decode cX3_joinAnew 3 = .ok (.aload_n 0, 1) := by decide +kernel
theorem dX3_joinAnew_4 : decode cX3_joinAnew 4 = .ok (.getfield 39, 3) := by decide +kernel
theorem dX3_joinAnew_7 : decode cX3_joinAnew 7 = .ok (.if_icmp .gt 33, 3) := by decide +kernel
theorem dX3_joinAnew_10 : decode cX3_joinAnew 10 = .ok (.aload_n 0, 1) := by decide +kernel
theorem dX3_joinAnew_11 : decode cX3_joinAnew 11 = .ok (.getfield 36, 3) := by decide +kernel
theorem dX3_joinAnew_14 : decode cX3_joinAnew 14 = .ok (.iconst 0, 1) := by decide +kernel
theorem dX3_joinAnew_15 : decode cX3_joinAnew 15 = .ok (.invokestatic 71, 3) := by decide +kernel
theorem dX3_joinAnew_18 : decode cX3_joinAnew 18 = .ok (.aload_n 0, 1) := by decide +kernel
theorem dX3_joinAnew_19 : decode cX3_joinAnew 19 = .ok (.iconst 0, 1) := by decide +kernel
theorem dX3_joinAnew_20 : decode cX3_joinAnew 20 = .ok (.iconst 0, 1) := by decide +kernel
theorem dX3_joinAnew_21 : decode cX3_joinAnew 21 = .ok (.iload_n 1, 1) := by decide +kernel
theorem dX3_joinAnew_22 : decode cX3_joinAnew 22 = .ok (.invokevirtual 77, 3) := by decide +kernel
theorem dX3_joinAnew_25 : decode cX3_joinAnew 25 = .ok (.ifCond .eq 9, 3) := by decide +kernel
theorem dX3_joinAnew_28 : decode cX3_joinAnew 28 = .ok (.aload_n 0, 1) := by decide +kernel
theorem dX3_joinAnew_29 : decode cX3_joinAnew 29 = .ok (.iload_n 1, 1) := by decide +kernel
theorem dX3_joinAnew_30 : decode cX3_joinAnew 30 = .ok (.putfield 58, 3) := by decide +kernel
theorem dX3_joinAnew_33 : decode cX3_joinAnew 33 = .ok (.return_, 1) := by decide +kernel
theorem dX3_joinAnew_34 : decode cX3_joinAnew 34 = .ok (.iinc 1 1, 3) := by decide +kernel
theorem dX3_joinAnew_37 : decode cX3_joinAnew 37 = .ok (.goto (-35), 3) := by decide +kernel
theorem dX3_joinAnew_40 : decode cX3_joinAnew 40 = .ok (.return_, 1) := by decide +kernel
theorem dX3_placeFrom_0 : decode cX3_placeFrom 0 = .ok (.iload_n 1, 1) := by decide +kernel
theorem dX3_placeFrom_1 : decode cX3_placeFrom 1 = .ok (.aload_n 0, 1) := by decide +kernel
theorem dX3_placeFrom_2 : decode cX3_placeFrom 2 = .ok (.getfield 39, 3) := by decide +kernel
theorem dX3_placeFrom_5 : decode cX3_placeFrom 5 = .ok (.if_icmp .lt 5, 3) := by decide +kernel
theorem dX3_placeFrom_8 : decode cX3_placeFrom 8 = .ok (.iconst 1, 1) := by decide +kernel
theorem dX3_placeFrom_9 : decode cX3_placeFrom 9 = .ok (.ireturn, 1) := by decide +kernel
theorem dX3_placeFrom_10 : decode cX3_placeFrom 10 = .ok (.iload_n 2, 1) := by decide +kernel
theorem dX3_placeFrom_11 : decode cX3_placeFrom 11 = .ok (.iload_n 3, 1) := by decide +kernel
theorem dX3_placeFrom_12 : decode cX3_placeFrom 12 = .ok (.iconst 1, 1) := by decide +kernel
theorem dX3_placeFrom_13 : decode cX3_placeFrom 13 = .ok (.isub, 1) := by decide +kernel
theorem dX3_placeFrom_14 : decode cX3_placeFrom 14 = .ok (.invokestatic 80, 3) := by decide +kernel
theorem dX3_placeFrom_17 : decode cX3_placeFrom 17 = .ok (.istore 4, 2) := by decide +kernel
theorem dX3_placeFrom_19 : decode cX3_placeFrom 19 = .ok (.iconst 0, 1) := by decide +kernel
theorem dX3_placeFrom_20 : decode cX3_placeFrom 20 = .ok (.istore 5, 2) := by decide +kernel
theorem dX3_placeFrom_22 : decode cX3_placeFrom 22 = .ok (.iload 5, 2) := by decide +kernel
theorem dX3_placeFrom_24 : decode cX3_placeFrom 24 = .ok (.iload 4, 2) := by decide +kernel
theorem dX3_placeFrom_26 : decode cX3_placeFrom 26 = .ok (.if_icmp .gt 23, 3) := by decide +kernel
theorem dX3_placeFrom_29 : decode cX3_placeFrom 29 = .ok (.aload_n 0, 1) := by decide +kernel
theorem dX3_placeFrom_30 : decode cX3_placeFrom 30 = .ok (.iload 5, 2) := by decide +kernel
theorem dX3_placeFrom_32 : decode cX3_placeFrom 32 = .ok (.iload_n 1, 1) := by decide +kernel
theorem dX3_placeFrom_33 : decode cX3_placeFrom 33 = .ok (.iload_n 2, 1) := by decide +kernel
theorem dX3_placeFrom_34 : decode cX3_placeFrom 34 = .ok (.iload_n 3, 1) := by decide +kernel
theorem dX3_placeFrom_35 : decode cX3_placeFrom 35 = .ok (.invokevirtual 86, 3) := by decide +kernel
theorem dX3_placeFrom_38 : decode cX3_placeFrom 38 = .ok (.ifCond .eq 5, 3) := by decide +kernel
theorem dX3_placeFrom_41 : decode cX3_placeFrom 41 = .ok (.iconst 1, 1) := by decide +kernel
theorem dX3_placeFrom_42 : decode cX3_placeFrom 42 = .ok (.ireturn, 1) := by decide +kernel
theorem dX3_placeFrom_43 : decode cX3_placeFrom 43 = .ok (.iinc 5 1, 3) := by decide +kernel
theorem dX3_placeFrom_46 : decode cX3_placeFrom 46 = .ok (.goto (-24), 3) := by decide +kernel
theorem dX3_placeFrom_49 : decode cX3_placeFrom 49 = .ok (.iconst 0, 1) := by decide +kernel
theorem dX3_placeFrom_50 : decode cX3_placeFrom 50 = .ok (.ireturn, 1) := by decide +kernel
theorem dX3_placeInto_0 : decode cX3_placeInto 0 = .ok (.aload_n 0, 1) := by decide +kernel
theorem dX3_placeInto_1 : decode cX3_placeInto 1 = .ok (.getfield 36, 3) := by decide +kernel
theorem dX3_placeInto_4 : decode cX3_placeInto 4 = .ok (.iload_n 1, 1) := by decide +kernel
theorem dX3_placeInto_5 : decode cX3_placeInto 5 = .ok (.iaload, 1) := by decide +kernel
theorem dX3_placeInto_6 : decode cX3_placeInto 6 = .ok (.aload_n 0, 1) := by decide +kernel
theorem dX3_placeInto_7 : decode cX3_placeInto 7 = .ok (.getfield 27, 3) := by decide +kernel
theorem dX3_placeInto_10 : decode cX3_placeInto 10 = .ok (.iload_n 2, 1) := by decide +kernel
theorem dX3_placeInto_11 : decode cX3_placeInto 11 = .ok (.iaload, 1) := by decide +kernel
theorem dX3_placeInto_12 : decode cX3_placeInto 12 = .ok (.iconst (-1), 1) := by decide +kernel
theorem dX3_placeInto_13 : decode cX3_placeInto 13 = .ok (.ixor, 1) := by decide +kernel
theorem dX3_placeInto_14 : decode cX3_placeInto 14 = .ok (.iand, 1) := by decide +kernel
theorem dX3_placeInto_15 : decode cX3_placeInto 15 = .ok (.ifCond .eq 5, 3) := by decide +kernel
theorem dX3_placeInto_18 : decode cX3_placeInto 18 = .ok (.iconst 0, 1) := by decide +kernel
theorem dX3_placeInto_19 : decode cX3_placeInto 19 = .ok (.ireturn, 1) := by decide +kernel
theorem dX3_placeInto_20 : decode cX3_placeInto 20 = .ok (.aload_n 0, 1) := by decide +kernel
theorem dX3_placeInto_21 : decode cX3_placeInto 21 = .ok (.getfield 36, 3) := by decide +kernel
theorem dX3_placeInto_24 : decode cX3_placeInto 24 = .ok (.iload_n 1, 1) := by decide +kernel
theorem dX3_placeInto_25 : decode cX3_placeInto 25 = .ok (.dup2, 1) := by decide +kernel
theorem dX3_placeInto_26 : decode cX3_placeInto 26 = .ok (.iaload, 1) := by decide +kernel
theorem dX3_placeInto_27 : decode cX3_placeInto 27 = .ok (.iconst 1, 1) := by decide +kernel
theorem dX3_placeInto_28 : decode cX3_placeInto 28 = .ok (.iload_n 2, 1) := by decide +kernel
theorem dX3_placeInto_29 : decode cX3_placeInto 29 = .ok (.ishl, 1) := by decide +kernel
theorem dX3_placeInto_30 : decode cX3_placeInto 30 = .ok (.ior, 1) := by decide +kernel
theorem dX3_placeInto_31 : decode cX3_placeInto 31 = .ok (.iastore, 1) := by decide +kernel
theorem dX3_placeInto_32 : decode cX3_placeInto 32 = .ok (.aload_n 0, 1) := by decide +kernel
theorem dX3_placeInto_33 : decode cX3_placeInto 33 = .ok (.getfield 33, 3) := by decide +kernel
theorem dX3_placeInto_36 : decode cX3_placeInto 36 = .ok (.iload_n 2, 1) := by decide +kernel
theorem dX3_placeInto_37 : decode cX3_placeInto 37 = .ok (.iload_n 1, 1) := by decide +kernel
theorem dX3_placeInto_38 : decode cX3_placeInto 38 = .ok (.iastore, 1) := by decide +kernel
theorem dX3_placeInto_39 : decode cX3_placeInto 39 = .ok (.aload_n 0, 1) := by decide +kernel
theorem dX3_placeInto_40 : decode cX3_placeInto 40 = .ok (.iload_n 2, 1) := by decide +kernel
theorem dX3_placeInto_41 : decode cX3_placeInto 41 = .ok (.iconst 1, 1) := by decide +kernel
theorem dX3_placeInto_42 : decode cX3_placeInto 42 = .ok (.iadd, 1) := by decide +kernel
theorem dX3_placeInto_43 : decode cX3_placeInto 43 = .ok (.iload_n 3, 1) := by decide +kernel
theorem dX3_placeInto_44 : decode cX3_placeInto 44 = .ok (.iload_n 1, 1) := by decide +kernel
theorem dX3_placeInto_45 : decode cX3_placeInto 45 = .ok (.iconst 1, 1) := by decide +kernel
theorem dX3_placeInto_46 : decode cX3_placeInto 46 = .ok (.iadd, 1) := by decide +kernel
theorem dX3_placeInto_47 : decode cX3_placeInto 47 = .ok (.invokestatic 90, 3) := by decide +kernel
theorem dX3_placeInto_50 : decode cX3_placeInto 50 = .ok (.iload 4, 2) := by decide +kernel
theorem dX3_placeInto_52 : decode cX3_placeInto 52 = .ok (.invokevirtual 77, 3) := by decide +kernel
theorem dX3_placeInto_55 : decode cX3_placeInto 55 = .ok (.ifCond .eq 5, 3) := by decide +kernel
theorem dX3_placeInto_58 : decode cX3_placeInto 58 = .ok (.iconst 1, 1) := by decide +kernel
theorem dX3_placeInto_59 : decode cX3_placeInto 59 = .ok (.ireturn, 1) := by decide +kernel
theorem dX3_placeInto_60 : decode cX3_placeInto 60 = .ok (.aload_n 0, 1) := by decide +kernel
theorem dX3_placeInto_61 : decode cX3_placeInto 61 = .ok (.getfield 36, 3) := by decide +kernel
theorem dX3_placeInto_64 : decode cX3_placeInto 64 = .ok (.iload_n 1, 1) := by decide +kernel
theorem dX3_placeInto_65 : decode cX3_placeInto 65 = .ok (.dup2, 1) := by decide +kernel
theorem dX3_placeInto_66 : decode cX3_placeInto 66 = .ok (.iaload, 1) := by decide +kernel
theorem dX3_placeInto_67 : decode cX3_placeInto 67 = .ok (.iconst 1, 1) := by decide +kernel
theorem dX3_placeInto_68 : decode cX3_placeInto 68 = .ok (.iload_n 2, 1) := by decide +kernel
theorem dX3_placeInto_69 : decode cX3_placeInto 69 = .ok (.ishl, 1) := by decide +kernel
theorem dX3_placeInto_70 : decode cX3_placeInto 70 = .ok (.iconst (-1), 1) := by decide +kernel
theorem dX3_placeInto_71 : decode cX3_placeInto 71 = .ok (.ixor, 1) := by decide +kernel
theorem dX3_placeInto_72 : decode cX3_placeInto 72 = .ok (.iand, 1) := by decide +kernel
theorem dX3_placeInto_73 : decode cX3_placeInto 73 = .ok (.iastore, 1) := by decide +kernel
theorem dX3_placeInto_74 : decode cX3_placeInto 74 = .ok (.iconst 0, 1) := by decide +kernel
theorem dX3_placeInto_75 : decode cX3_placeInto 75 = .ok (.ireturn, 1) := by decide +kernel
theorem dX4_init_0 : decode cX4_init 0 = .ok (.aload_n 0, 1) := by decide +kernel
theorem dX4_init_1 : decode cX4_init 1 = .ok (.invokespecial 3, 3) := by decide +kernel
theorem dX4_init_4 : decode cX4_init 4 = .ok (.aload_n 0, 1) := by decide +kernel
theorem dX4_init_5 : decode cX4_init 5 = .ok (.bipush 40, 2) := by decide +kernel
theorem dX4_init_7 : decode cX4_init 7 = .ok (.newarray .int, 2) := by decide +kernel
theorem dX4_init_9 : decode cX4_init 9 = .ok (.putfield 11, 3) := by decide +kernel
theorem dX4_init_12 : decode cX4_init 12 = .ok (.return_, 1) := by decide +kernel
theorem dX4_setSizes_0 : decode cX4_setSizes 0 = .ok (.aload_n 0, 1) := by decide +kernel
theorem dX4_setSizes_1 : decode cX4_setSizes 1 = .ok (.iload_n 1, 1) := by decide +kernel
theorem dX4_setSizes_2 : decode cX4_setSizes 2 = .ok (.putfield 15, 3) := by decide +kernel
theorem dX4_setSizes_5 : decode cX4_setSizes 5 = .ok (.aload_n 0, 1) := by decide +kernel
theorem dX4_setSizes_6 : decode cX4_setSizes 6 = .ok (.iload_n 2, 1) := by decide +kernel
theorem dX4_setSizes_7 : decode cX4_setSizes 7 = .ok (.putfield 19, 3) := by decide +kernel
theorem dX4_setSizes_10 : decode cX4_setSizes 10 = .ok (.aload_n 0, 1) := by decide +kernel
theorem dX4_setSizes_11 : decode cX4_setSizes 11 = .ok (.iload_n 3, 1) := by decide +kernel
theorem dX4_setSizes_12 : decode cX4_setSizes 12 = .ok (.putfield 22, 3) := by decide +kernel
theorem dX4_setSizes_15 : decode cX4_setSizes 15 = .ok (.aload_n 0, 1) := by decide +kernel
theorem dX4_setSizes_16 : decode cX4_setSizes 16 = .ok (.iload 4, 2) := by decide +kernel
theorem dX4_setSizes_18 : decode cX4_setSizes 18 = .ok (.putfield 25, 3) := by decide +kernel
theorem dX4_setSizes_21 : decode cX4_setSizes 21 = .ok (.return_, 1) := by decide +kernel
theorem dX4_reckon_0 : decode cX4_reckon 0 = .ok (.aload_n 0, 1) := by decide +kernel
theorem dX4_reckon_1 : decode cX4_reckon 1 = .ok (.iconst 0, 1) := by decide +kernel
theorem dX4_reckon_2 : decode cX4_reckon 2 = .ok (.putfield 28, 3) := by decide +kernel
theorem dX4_reckon_5 : decode cX4_reckon 5 = .ok (.aload_n 0, 1) := by decide +kernel
theorem dX4_reckon_6 : decode cX4_reckon 6 = .ok (.iconst 0, 1) := by decide +kernel
theorem dX4_reckon_7 : decode cX4_reckon 7 = .ok (.putfield 31, 3) := by decide +kernel
theorem dX4_reckon_10 : decode cX4_reckon 10 = .ok (.aload_n 1, 1) := by decide +kernel
theorem dX4_reckon_11 : decode cX4_reckon 11 = .ok (.astore_n 2, 1) := by decide +kernel
theorem dX4_reckon_12 : decode cX4_reckon 12 = .ok (.aload_n 2, 1) := by decide +kernel
theorem dX4_reckon_13 : decode cX4_reckon 13 = .ok (.arraylength, 1) := by decide +kernel
theorem dX4_reckon_14 : decode cX4_reckon 14 = .ok (.istore_n 3, 1) := by decide +kernel
theorem dX4_reckon_15 : decode cX4_reckon 15 = .ok (.iconst 0, 1) := by decide +kernel
theorem dX4_reckon_16 : decode cX4_reckon 16 = .ok (.istore 4, 2) := by decide +kernel
theorem dX4_reckon_18 : decode cX4_reckon 18 = .ok (.iload 4, 2) := by decide +kernel
theorem dX4_reckon_20 : decode cX4_reckon 20 = .ok (.iload_n 3, 1) := by decide +kernel
theorem dX4_reckon_21 : decode cX4_reckon 21 = .ok (.if_icmp .ge 35, 3) := by decide +kernel
theorem dX4_reckon_24 : decode cX4_reckon 24 = .ok (.aload_n 2, 1) := by decide +kernel
theorem dX4_reckon_25 : decode cX4_reckon 25 = .ok (.iload 4, 2) := by decide +kernel
theorem dX4_reckon_27 : decode cX4_reckon 27 = .ok (.iaload, 1) := by decide +kernel
theorem dX4_reckon_28 : decode cX4_reckon 28 = .ok (.istore 5, 2) := by decide +kernel
theorem dX4_reckon_30 : decode cX4_reckon 30 = .ok (.iload 5, 2) := by decide +kernel
theorem dX4_reckon_32 : decode cX4_reckon 32 = .ok (.ifCond .ne 6, 3) := by decide +kernel
theorem dX4_reckon_35 : decode cX4_reckon 35 = .ok (.goto 21, 3) := by decide +kernel
theorem dX4_reckon_38 : decode cX4_reckon 38 = .ok (.aload_n 0, 1) := by decide +kernel
theorem dX4_reckon_39 : decode cX4_reckon 39 = .ok (.iload 5, 2) := by decide +kernel
theorem dX4_reckon_41 : decode cX4_reckon 41 = .ok (.invokevirtual 34, 3) := by decide +kernel
theorem dX4_reckon_44 : decode cX4_reckon 44 = .ok (.ifCond .ne 6, 3) := by decide +kernel
theorem dX4_reckon_47 : decode cX4_reckon 47 = .ok (.ldc 38, 2) := by decide +kernel
theorem dX4_reckon_49 : decode cX4_reckon 49 = .ok (.ireturn, 1) := by decide +kernel
theorem dX4_reckon_50 : decode cX4_reckon 50 = .ok (.iinc 4 1, 3) := by decide +kernel
theorem dX4_reckon_53 : decode cX4_reckon 53 = .ok (.goto (-35), 3) := by decide +kernel
theorem dX4_reckon_56 : decode cX4_reckon 56 = .ok (.aload_n 0, 1) := by decide +kernel
theorem dX4_reckon_57 : decode cX4_reckon 57 = .ok (.getfield 28, 3) := by decide +kernel
theorem dX4_reckon_60 : decode cX4_reckon 60 = .ok (.iconst 1, 1) := by decide +kernel
theorem dX4_reckon_61 : decode cX4_reckon 61 = .ok (.if_icmp .ne 12, 3) := by decide +kernel
theorem dX4_reckon_64 : decode cX4_reckon 64 = .ok (.aload_n 0, 1) := by decide +kernel
theorem dX4_reckon_65 : decode cX4_reckon 65 = .ok (.getfield 11, 3) := by decide +kernel
theorem dX4_reckon_68 : decode cX4_reckon 68 = .ok (.iconst 0, 1) := by decide +kernel
theorem dX4_reckon_69 : decode cX4_reckon 69 = .ok (.iaload, 1) := by decide +kernel
theorem dX4_reckon_70 : decode cX4_reckon 70 = .ok (.goto 5, 3) := by decide +kernel
theorem dX4_reckon_73 : decode cX4_reckon 73 = .ok (.ldc 38, 2) := by decide +kernel
theorem dX4_reckon_75 : decode cX4_reckon 75 = .ok (.ireturn, 1) := by decide +kernel
theorem dX4_read_0 : decode cX4_read 0 = .ok (.iload_n 1, 1) := by decide +kernel
theorem dX4_read_1 : decode cX4_read 1 = .ok (.bipush 48, 2) := by decide +kernel
theorem dX4_read_3 : decode cX4_read 3 = .ok (.bipush 57, 2) := by decide +kernel
theorem dX4_read_5 : decode cX4_read 5 = .ok (.invokestatic 39, 3) := by decide +kernel
theorem dX4_read_8 : decode cX4_read 8 = .ok (.ifCond .eq 12, 3) := by decide +kernel
theorem dX4_read_11 : decode cX4_read 11 = .ok (.aload_n 0, 1) := by decide +kernel
theorem dX4_read_12 : decode cX4_read 12 = .ok (.iload_n 1, 1) := by decide +kernel
theorem dX4_read_13 : decode cX4_read 13 = .ok (.bipush 48, 2) := by decide +kernel
theorem dX4_read_15 : decode cX4_read 15 = .ok (.isub, 1) := by decide +kernel
theorem dX4_read_16 : decode cX4_read 16 = .ok (.invokevirtual 43, 3) := by decide +kernel
theorem dX4_read_19 : decode cX4_read 19 = .ok (.ireturn, 1) := by decide +kernel
theorem dX4_read_20 : decode cX4_read 20 = .ok (.aload_n 0, 1) := by decide +kernel
theorem dX4_read_21 : decode cX4_read 21 = .ok (.iconst 0, 1) := by decide +kernel
theorem dX4_read_22 : decode cX4_read 22 = .ok (.putfield 31, 3) := by decide +kernel
theorem dX4_read_25 : decode cX4_read 25 = .ok (.iload_n 1, 1) := by decide +kernel
theorem dX4_read_26 : decode cX4_read 26 = .ok (.lookupswitch 139 #[(32, 90), (33, 128), (42, 133), (43, 133), (45, 133), (47, 133), (98, 101), (100, 110), (108, 92), (114, 119)], 90) := by decide +kernel
theorem dX4_read_116 : decode cX4_read 116 = .ok (.iconst 1, 1) := by decide +kernel
theorem dX4_read_117 : decode cX4_read 117 = .ok (.ireturn, 1) := by decide +kernel
theorem dX4_read_118 : decode cX4_read 118 = .ok (.aload_n 0, 1) := by decide +kernel
theorem dX4_read_119 : decode cX4_read 119 = .ok (.aload_n 0, 1) := by decide +kernel
theorem dX4_read_120 : decode cX4_read 120 = .ok (.getfield 15, 3) := by decide +kernel
theorem dX4_read_123 : decode cX4_read 123 = .ok (.invokevirtual 46, 3) := by decide +kernel
theorem dX4_read_126 : decode cX4_read 126 = .ok (.ireturn, 1) := by decide +kernel
theorem dX4_read_127 : decode cX4_read 127 = .ok (.aload_n 0, 1) := by decide +kernel
theorem dX4_read_128 : decode cX4_read 128 = .ok (.aload_n 0, 1) := by decide +kernel
theorem dX4_read_129 : decode cX4_read 129 = .ok (.getfield 19, 3) := by decide +kernel
theorem dX4_read_132 : decode cX4_read 132 = .ok (.invokevirtual 46, 3) := by decide +kernel
theorem dX4_read_135 : decode cX4_read 135 = .ok (.ireturn, 1) := by decide +kernel
theorem dX4_read_136 : decode cX4_read 136 = .ok (.aload_n 0, 1) := by decide +kernel
theorem dX4_read_137 : decode cX4_read 137 = .ok (.aload_n 0, 1) := by decide +kernel
theorem dX4_read_138 : decode cX4_read 138 = .ok (.getfield 22, 3) := by decide +kernel
theorem dX4_read_141 : decode cX4_read 141 = .ok (.invokevirtual 46, 3) := by decide +kernel
theorem dX4_read_144 : decode cX4_read 144 = .ok (.ireturn, 1) := by decide +kernel
theorem dX4_read_145 : decode cX4_read 145 = .ok (.aload_n 0, 1) := by decide +kernel
theorem dX4_read_146 : decode cX4_read 146 = .ok (.aload_n 0, 1) := by decide +kernel
theorem dX4_read_147 : decode cX4_read 147 = .ok (.getfield 25, 3) := by decide +kernel
theorem dX4_read_150 : decode cX4_read 150 = .ok (.invokevirtual 46, 3) := by decide +kernel
theorem dX4_read_153 : decode cX4_read 153 = .ok (.ireturn, 1) := by decide +kernel
theorem dX4_read_154 : decode cX4_read 154 = .ok (.aload_n 0, 1) := by decide +kernel
theorem dX4_read_155 : decode cX4_read 155 = .ok (.invokevirtual 49, 3) := by decide +kernel
theorem dX4_read_158 : decode cX4_read 158 = .ok (.ireturn, 1) := by decide +kernel
theorem dX4_read_159 : decode cX4_read 159 = .ok (.aload_n 0, 1) := by decide +kernel
theorem dX4_read_160 : decode cX4_read 160 = .ok (.iload_n 1, 1) := by decide +kernel
theorem dX4_read_161 : decode cX4_read 161 = .ok (.invokevirtual 53, 3) := by decide +kernel
theorem dX4_read_164 : decode cX4_read 164 = .ok (.ireturn, 1) := by decide +kernel
theorem dX4_read_165 : decode cX4_read 165 = .ok (.iconst 0, 1) := by decide +kernel
theorem dX4_read_166 : decode cX4_read 166 = .ok (.ireturn, 1) := by decide +kernel
theorem dX4_readFigure_0 : decode cX4_readFigure 0 = .ok (.aload_n 0, 1) := by decide +kernel
theorem dX4_readFigure_1 : decode cX4_readFigure 1 = .ok (.dup, 1) := by decide +kernel
theorem dX4_readFigure_2 : decode cX4_readFigure 2 = .ok (.getfield 31, 3) := by decide +kernel
theorem dX4_readFigure_5 : decode cX4_readFigure 5 = .ok (.iconst 1, 1) := by decide +kernel
theorem dX4_readFigure_6 : decode cX4_readFigure 6 = .ok (.iadd, 1) := by decide +kernel
theorem dX4_readFigure_7 : decode cX4_readFigure 7 = .ok (.putfield 31, 3) := by decide +kernel
theorem dX4_readFigure_10 : decode cX4_readFigure 10 = .ok (.aload_n 0, 1) := by decide +kernel
theorem dX4_readFigure_11 : decode cX4_readFigure 11 = .ok (.getfield 31, 3) := by decide +kernel
theorem dX4_readFigure_14 : decode cX4_readFigure 14 = .ok (.iconst 1, 1) := by decide +kernel
theorem dX4_readFigure_15 : decode cX4_readFigure 15 = .ok (.if_icmp .ne 9, 3) := by decide +kernel
theorem dX4_readFigure_18 : decode cX4_readFigure 18 = .ok (.aload_n 0, 1) := by decide +kernel
theorem dX4_readFigure_19 : decode cX4_readFigure 19 = .ok (.iload_n 1, 1) := by decide +kernel
theorem dX4_readFigure_20 : decode cX4_readFigure 20 = .ok (.invokevirtual 46, 3) := by decide +kernel
theorem dX4_readFigure_23 : decode cX4_readFigure 23 = .ok (.ireturn, 1) := by decide +kernel
theorem dX4_readFigure_24 : decode cX4_readFigure 24 = .ok (.aload_n 0, 1) := by decide +kernel
theorem dX4_readFigure_25 : decode cX4_readFigure 25 = .ok (.getfield 31, 3) := by decide +kernel
theorem dX4_readFigure_28 : decode cX4_readFigure 28 = .ok (.iconst 4, 1) := by decide +kernel
theorem dX4_readFigure_29 : decode cX4_readFigure 29 = .ok (.if_icmp .gt 11, 3) := by decide +kernel
theorem dX4_readFigure_32 : decode cX4_readFigure 32 = .ok (.aload_n 0, 1) := by decide +kernel
theorem dX4_readFigure_33 : decode cX4_readFigure 33 = .ok (.getfield 28, 3) := by decide +kernel
theorem dX4_readFigure_36 : decode cX4_readFigure 36 = .ok (.iconst 1, 1) := by decide +kernel
theorem dX4_readFigure_37 : decode cX4_readFigure 37 = .ok (.if_icmp .ge 5, 3) := by decide +kernel
theorem dX4_readFigure_40 : decode cX4_readFigure 40 = .ok (.iconst 0, 1) := by decide +kernel
theorem dX4_readFigure_41 : decode cX4_readFigure 41 = .ok (.ireturn, 1) := by decide +kernel
theorem dX4_readFigure_42 : decode cX4_readFigure 42 = .ok (.aload_n 0, 1) := by decide +kernel
theorem dX4_readFigure_43 : decode cX4_readFigure 43 = .ok (.getfield 11, 3) := by decide +kernel
theorem dX4_readFigure_46 : decode cX4_readFigure 46 = .ok (.aload_n 0, 1) := by decide +kernel
theorem dX4_readFigure_47 : decode cX4_readFigure 47 = .ok (.getfield 28, 3) := by decide +kernel
theorem dX4_readFigure_50 : decode cX4_readFigure 50 = .ok (.iconst 1, 1) := by decide +kernel
theorem dX4_readFigure_51 : decode cX4_readFigure 51 = .ok (.isub, 1) := by decide +kernel
theorem dX4_readFigure_52 : decode cX4_readFigure 52 = .ok (.aload_n 0, 1) := by decide +kernel
theorem dX4_readFigure_53 : decode cX4_readFigure 53 = .ok (.getfield 11, 3) := by decide +kernel
theorem dX4_readFigure_56 : decode cX4_readFigure 56 = .ok (.aload_n 0, 1) := by decide +kernel
theorem dX4_readFigure_57 : decode cX4_readFigure 57 = .ok (.getfield 28, 3) := by decide +kernel
theorem dX4_readFigure_60 : decode cX4_readFigure 60 = .ok (.iconst 1, 1) := by decide +kernel
theorem dX4_readFigure_61 : decode cX4_readFigure 61 = .ok (.isub, 1) := by decide +kernel
theorem dX4_readFigure_62 : decode cX4_readFigure 62 = .ok (.iaload, 1) := by decide +kernel
theorem dX4_readFigure_63 : decode cX4_readFigure 63 = .ok (.bipush 10, 2) := by decide +kernel
theorem dX4_readFigure_65 : decode cX4_readFigure 65 = .ok (.imul, 1) := by decide +kernel
theorem dX4_readFigure_66 : decode cX4_readFigure 66 = .ok (.iload_n 1, 1) := by decide +kernel
theorem dX4_readFigure_67 : decode cX4_readFigure 67 = .ok (.iadd, 1) := by decide +kernel
theorem dX4_readFigure_68 : decode cX4_readFigure 68 = .ok (.iastore, 1) := by decide +kernel
theorem dX4_readFigure_69 : decode cX4_readFigure 69 = .ok (.iconst 1, 1) := by decide +kernel
theorem dX4_readFigure_70 : decode cX4_readFigure 70 = .ok (.ireturn, 1) := by decide +kernel
theorem dX4_push_0 : decode cX4_push 0 = .ok (.aload_n 0, 1) := by decide +kernel
theorem dX4_push_1 : decode cX4_push 1 = .ok (.getfield 28, 3) := by decide +kernel
theorem dX4_push_4 : decode cX4_push 4 = .ok (.aload_n 0, 1) := by decide +kernel
theorem dX4_push_5 : decode cX4_push 5 = .ok (.getfield 11, 3) := by decide +kernel
theorem dX4_push_8 : decode cX4_push 8 = .ok (.arraylength, 1) := by decide +kernel
theorem dX4_push_9 : decode cX4_push 9 = .ok (.if_icmp .lt 5, 3) := by decide +kernel
theorem dX4_push_12 : decode cX4_push 12 = .ok (.iconst 0, 1) := by decide +kernel
theorem dX4_push_13 : decode cX4_push 13 = .ok (.ireturn, 1) := by decide +kernel
theorem dX4_push_14 : decode cX4_push 14 = .ok (.aload_n 0, 1) := by decide +kernel
theorem dX4_push_15 : decode cX4_push 15 = .ok (.getfield 11, 3) := by decide +kernel
theorem dX4_push_18 : decode cX4_push 18 = .ok (.aload_n 0, 1) := by decide +kernel
theorem dX4_push_19 : decode cX4_push 19 = .ok (.getfield 28, 3) := by decide +kernel
theorem dX4_push_22 : decode cX4_push 22 = .ok (.iload_n 1, 1) := by decide +kernel
theorem dX4_push_23 : decode cX4_push 23 = .ok (.iastore, 1) := by decide +kernel
theorem dX4_push_24 : decode cX4_push 24 = .ok (.aload_n 0, 1) := by decide +kernel
theorem dX4_push_25 : decode cX4_push 25 = .ok (.dup, 1) := by decide +kernel
theorem dX4_push_26 : decode cX4_push 26 = .ok (.getfield 28, 3) := by decide +kernel
theorem dX4_push_29 : decode cX4_push 29 = .ok (.iconst 1, 1) := by decide +kernel
theorem dX4_push_30 : decode cX4_push 30 = .ok (.iadd, 1) := by decide +kernel
theorem dX4_push_31 : decode cX4_push 31 = .ok (.putfield 28, 3) := by decide +kernel
theorem dX4_push_34 : decode cX4_push 34 = .ok (.iconst 1, 1) := by decide +kernel
theorem dX4_push_35 : decode cX4_push 35 = .ok (.ireturn, 1) := by decide +kernel
theorem dX4_liftToZero_0 : decode cX4_liftToZero 0 = .ok (.aload_n 0, 1) := by decide +kernel
theorem dX4_liftToZero_1 : decode cX4_liftToZero 1 = .ok (.getfield 28, 3) := by decide +kernel
theorem dX4_liftToZero_4 : decode cX4_liftToZero 4 = .ok (.iconst 1, 1) := by decide +kernel
theorem dX4_liftToZero_5 : decode cX4_liftToZero 5 = .ok (.if_icmp .ge 5, 3) := by decide +kernel
theorem dX4_liftToZero_8 : decode cX4_liftToZero 8 = .ok (.iconst 0, 1) := by decide +kernel
theorem dX4_liftToZero_9 : decode cX4_liftToZero 9 = .ok (.ireturn, 1) := by decide +kernel
theorem dX4_liftToZero_10 : decode cX4_liftToZero 10 = .ok (.aload_n 0, 1) := by decide +kernel
theorem dX4_liftToZero_11 : decode cX4_liftToZero 11 = .ok (.getfield 11, 3) := by decide +kernel
theorem dX4_liftToZero_14 : decode cX4_liftToZero 14 = .ok (.aload_n 0, 1) := by decide +kernel
theorem dX4_liftToZero_15 : decode cX4_liftToZero 15 = .ok (.getfield 28, 3) := by decide +kernel
theorem dX4_liftToZero_18 : decode cX4_liftToZero 18 = .ok (.iconst 1, 1) := by decide +kernel
theorem dX4_liftToZero_19 : decode cX4_liftToZero 19 = .ok (.isub, 1) := by decide +kernel
theorem dX4_liftToZero_20 : decode cX4_liftToZero 20 = .ok (.aload_n 0, 1) := by decide +kernel
theorem dX4_liftToZero_21 : decode cX4_liftToZero 21 = .ok (.getfield 11, 3) := by decide +kernel
theorem dX4_liftToZero_24 : decode cX4_liftToZero 24 = .ok (.aload_n 0, 1) := by decide +kernel
theorem dX4_liftToZero_25 : decode cX4_liftToZero 25 = .ok (.getfield 28, 3) := by decide +kernel
theorem dX4_liftToZero_28 : decode cX4_liftToZero 28 = .ok (.iconst 1, 1) := by decide +kernel
theorem dX4_liftToZero_29 : decode cX4_liftToZero 29 = .ok (.isub, 1) := by decide +kernel
theorem dX4_liftToZero_30 : decode cX4_liftToZero 30 = .ok (.iaload, 1) := by decide +kernel
theorem dX4_liftToZero_31 : decode cX4_liftToZero 31 = .ok (.iconst 0, 1) := by decide +kernel
theorem dX4_liftToZero_32 : decode cX4_liftToZero 32 = .ok (.invokestatic 56, 3) := by decide +kernel
theorem dX4_liftToZero_35 : decode cX4_liftToZero 35 = .ok (.iastore, 1) := by decide +kernel
theorem dX4_liftToZero_36 : decode cX4_liftToZero 36 = .ok (.iconst 1, 1) := by decide +kernel
theorem dX4_liftToZero_37 : decode cX4_liftToZero 37 = .ok (.ireturn, 1) := by decide +kernel
theorem dX4_joinTwo_0 : decode cX4_joinTwo 0 = .ok (.aload_n 0, 1) := by decide +kernel
theorem dX4_joinTwo_1 : decode cX4_joinTwo 1 = .ok (.getfield 28, 3) := by decide +kernel
theorem dX4_joinTwo_4 : decode cX4_joinTwo 4 = .ok (.iconst 2, 1) := by decide +kernel
theorem dX4_joinTwo_5 : decode cX4_joinTwo 5 = .ok (.if_icmp .ge 5, 3) := by decide +kernel
theorem dX4_joinTwo_8 : decode cX4_joinTwo 8 = .ok (.iconst 0, 1) := by decide +kernel
theorem dX4_joinTwo_9 : decode cX4_joinTwo 9 = .ok (.ireturn, 1) := by decide +kernel
theorem dX4_joinTwo_10 : decode cX4_joinTwo 10 = .ok (.aload_n 0, 1) := by decide +kernel
theorem dX4_joinTwo_11 : decode cX4_joinTwo 11 = .ok (.dup, 1) := by decide +kernel
theorem dX4_joinTwo_12 : decode cX4_joinTwo 12 = .ok (.getfield 28, 3) := by decide +kernel
theorem dX4_joinTwo_15 : decode cX4_joinTwo 15 = .ok (.iconst 1, 1) := by decide +kernel
theorem dX4_joinTwo_16 : decode cX4_joinTwo 16 = .ok (.isub, 1) := by decide +kernel
theorem dX4_joinTwo_17 : decode cX4_joinTwo 17 = .ok (.putfield 28, 3) := by decide +kernel
theorem dX4_joinTwo_20 : decode cX4_joinTwo 20 = .ok (.aload_n 0, 1) := by decide +kernel
theorem dX4_joinTwo_21 : decode cX4_joinTwo 21 = .ok (.getfield 11, 3) := by decide +kernel
theorem dX4_joinTwo_24 : decode cX4_joinTwo 24 = .ok (.aload_n 0, 1) := by decide +kernel
theorem dX4_joinTwo_25 : decode cX4_joinTwo 25 = .ok (.getfield 28, 3) := by decide +kernel
theorem dX4_joinTwo_28 : decode cX4_joinTwo 28 = .ok (.iconst 1, 1) := by decide +kernel
theorem dX4_joinTwo_29 : decode cX4_joinTwo 29 = .ok (.isub, 1) := by decide +kernel
theorem dX4_joinTwo_30 : decode cX4_joinTwo 30 = .ok (.iload_n 1, 1) := by decide +kernel
theorem dX4_joinTwo_31 : decode cX4_joinTwo 31 = .ok (.aload_n 0, 1) := by decide +kernel
theorem dX4_joinTwo_32 : decode cX4_joinTwo 32 = .ok (.getfield 11, 3) := by decide +kernel
theorem dX4_joinTwo_35 : decode cX4_joinTwo 35 = .ok (.aload_n 0, 1) := by decide +kernel
theorem dX4_joinTwo_36 : decode cX4_joinTwo 36 = .ok (.getfield 28, 3) := by decide +kernel
theorem dX4_joinTwo_39 : decode cX4_joinTwo 39 = .ok (.iconst 1, 1) := by decide +kernel
theorem dX4_joinTwo_40 : decode cX4_joinTwo 40 = .ok (.isub, 1) := by decide +kernel
theorem dX4_joinTwo_41 : decode cX4_joinTwo 41 = .ok (.iaload, 1) := by decide +kernel
theorem dX4_joinTwo_42 : decode cX4_joinTwo 42 = .ok (.i2l, 1) := by decide +kernel
theorem dX4_joinTwo_43 : decode cX4_joinTwo 43 = .ok (.aload_n 0, 1) := by decide +kernel
theorem dX4_joinTwo_44 : decode cX4_joinTwo 44 = .ok (.getfield 11, 3) := by decide +kernel
theorem dX4_joinTwo_47 : decode cX4_joinTwo 47 = .ok (.aload_n 0, 1) := by decide +kernel
theorem dX4_joinTwo_48 : decode cX4_joinTwo 48 = .ok (.getfield 28, 3) := by decide +kernel
theorem dX4_joinTwo_51 : decode cX4_joinTwo 51 = .ok (.iaload, 1) := by decide +kernel
theorem dX4_joinTwo_52 : decode cX4_joinTwo 52 = .ok (.i2l, 1) := by decide +kernel
theorem dX4_joinTwo_53 : decode cX4_joinTwo 53 = .ok (.invokestatic 62, 3) := by decide +kernel
theorem dX4_joinTwo_56 : decode cX4_joinTwo 56 = .ok (.invokestatic 66, 3) := by decide +kernel
theorem dX4_joinTwo_59 : decode cX4_joinTwo 59 = .ok (.iastore, 1) := by decide +kernel
theorem dX4_joinTwo_60 : decode cX4_joinTwo 60 = .ok (.iconst 1, 1) := by decide +kernel
theorem dX4_joinTwo_61 : decode cX4_joinTwo 61 = .ok (.ireturn, 1) := by decide +kernel
theorem dX4_joined_0 : decode cX4_joined 0 = .ok (.iload_n 0, 1) := by decide +kernel
theorem dX4_joined_1 : decode cX4_joined 1 = .ok (.tableswitch 43 42 45 #[39, 31, 43, 35], 31) := by decide +kernel
theorem dX4_joined_32 : decode cX4_joined 32 = .ok (.lload_n 1, 1) := by decide +kernel
theorem dX4_joined_33 : decode cX4_joined 33 = .ok (.lload_n 3, 1) := by decide +kernel
theorem dX4_joined_34 : decode cX4_joined 34 = .ok (.ladd, 1) := by decide +kernel
theorem dX4_joined_35 : decode cX4_joined 35 = .ok (.lreturn, 1) := by decide +kernel
theorem dX4_joined_36 : decode cX4_joined 36 = .ok (.lload_n 1, 1) := by decide +kernel
theorem dX4_joined_37 : decode cX4_joined 37 = .ok (.lload_n 3, 1) := by decide +kernel
theorem dX4_joined_38 : decode cX4_joined 38 = .ok (.lsub, 1) := by decide +kernel
theorem dX4_joined_39 : decode cX4_joined 39 = .ok (.lreturn, 1) := by decide +kernel
theorem dX4_joined_40 : decode cX4_joined 40 = .ok (.lload_n 1, 1) := by decide +kernel
theorem dX4_joined_41 : decode cX4_joined 41 = .ok (.lload_n 3, 1) := by decide +kernel
theorem dX4_joined_42 : decode cX4_joined 42 = .ok (.lmul, 1) := by decide +kernel
theorem dX4_joined_43 : decode cX4_joined 43 = .ok (.lreturn, 1) := by decide +kernel
theorem dX4_joined_44 : decode cX4_joined 44 = .ok (.lload_n 3, 1) := by decide +kernel
theorem dX4_joined_45 : decode cX4_joined 45 = .ok (.lconst 0, 1) := by decide +kernel
theorem dX4_joined_46 : decode cX4_joined 46 = .ok (.lcmp, 1) := by decide +kernel
theorem dX4_joined_47 : decode cX4_joined 47 = .ok (.ifCond .ne 7, 3) := by decide +kernel
theorem dX4_joined_50 : decode cX4_joined 50 = .ok (.lconst 0, 1) := by decide +kernel
theorem dX4_joined_51 : decode cX4_joined 51 = .ok (.goto 6, 3) := by decide +kernel
theorem dX4_joined_54 : decode cX4_joined 54 = .ok (.lload_n 1, 1) := by decide +kernel
theorem dX4_joined_55 : decode cX4_joined 55 = .ok (.lload_n 3, 1) := by decide +kernel
theorem dX4_joined_56 : decode cX4_joined 56 = .ok (.ldiv, 1) := by decide +kernel
theorem dX4_joined_57 : decode cX4_joined 57 = .ok (.lreturn, 1) := by decide +kernel
theorem dX4_bounded_0 : decode cX4_bounded 0 = .ok (.lload_n 0, 1) := by decide +kernel
theorem dX4_bounded_1 : decode cX4_bounded 1 = .ok (.ldc2_w 70, 3) := by decide +kernel
theorem dX4_bounded_4 : decode cX4_bounded 4 = .ok (.lcmp, 1) := by decide +kernel
theorem dX4_bounded_5 : decode cX4_bounded 5 = .ok (.ifCond .le 6, 3) := by decide +kernel
theorem dX4_bounded_8 : decode cX4_bounded 8 = .ok (.ldc 72, 2) := by decide +kernel
theorem dX4_bounded_10 : decode cX4_bounded 10 = .ok (.ireturn, 1) := by decide +kernel
theorem dX4_bounded_11 : decode cX4_bounded 11 = .ok (.lload_n 0, 1) := by decide +kernel
theorem dX4_bounded_12 : decode cX4_bounded 12 = .ok (.ldc2_w 73, 3) := by decide +kernel
theorem dX4_bounded_15 : decode cX4_bounded 15 = .ok (.lcmp, 1) := by decide +kernel
theorem dX4_bounded_16 : decode cX4_bounded 16 = .ok (.ifCond .ge 8, 3) := by decide +kernel
theorem dX4_bounded_19 : decode cX4_bounded 19 = .ok (.ldc 75, 2) := by decide +kernel
theorem dX4_bounded_21 : decode cX4_bounded 21 = .ok (.goto 5, 3) := by decide +kernel
theorem dX4_bounded_24 : decode cX4_bounded 24 = .ok (.lload_n 0, 1) := by decide +kernel
theorem dX4_bounded_25 : decode cX4_bounded 25 = .ok (.l2i, 1) := by decide +kernel
theorem dX4_bounded_26 : decode cX4_bounded 26 = .ok (.ireturn, 1) := by decide +kernel
theorem dX5_init_0 : decode cX5_init 0 = .ok (.aload_n 0, 1) := by decide +kernel
theorem dX5_init_1 : decode cX5_init 1 = .ok (.invokespecial 1, 3) := by decide +kernel
theorem dX5_init_4 : decode cX5_init 4 = .ok (.aload_n 0, 1) := by decide +kernel
theorem dX5_init_5 : decode cX5_init 5 = .ok (.new 7, 3) := by decide +kernel
theorem dX5_init_8 : decode cX5_init 8 = .ok (.dup, 1) := by decide +kernel
theorem dX5_init_9 : decode cX5_init 9 = .ok (.invokespecial 9, 3) := by decide +kernel
theorem dX5_init_12 : decode cX5_init 12 = .ok (.putfield 10, 3) := by decide +kernel
theorem dX5_init_15 : decode cX5_init 15 = .ok (.aload_n 0, 1) := by decide +kernel
theorem dX5_init_16 : decode cX5_init 16 = .ok (.new 16, 3) := by decide +kernel
theorem dX5_init_19 : decode cX5_init 19 = .ok (.dup, 1) := by decide +kernel
theorem dX5_init_20 : decode cX5_init 20 = .ok (.invokespecial 18, 3) := by decide +kernel
theorem dX5_init_23 : decode cX5_init 23 = .ok (.putfield 19, 3) := by decide +kernel
theorem dX5_init_26 : decode cX5_init 26 = .ok (.aload_n 0, 1) := by decide +kernel
theorem dX5_init_27 : decode cX5_init 27 = .ok (.new 23, 3) := by decide +kernel
theorem dX5_init_30 : decode cX5_init 30 = .ok (.dup, 1) := by decide +kernel
theorem dX5_init_31 : decode cX5_init 31 = .ok (.invokespecial 25, 3) := by decide +kernel
theorem dX5_init_34 : decode cX5_init 34 = .ok (.putfield 26, 3) := by decide +kernel
theorem dX5_init_37 : decode cX5_init 37 = .ok (.aload_n 0, 1) := by decide +kernel
theorem dX5_init_38 : decode cX5_init 38 = .ok (.new 30, 3) := by decide +kernel
theorem dX5_init_41 : decode cX5_init 41 = .ok (.dup, 1) := by decide +kernel
theorem dX5_init_42 : decode cX5_init 42 = .ok (.invokespecial 32, 3) := by decide +kernel
theorem dX5_init_45 : decode cX5_init 45 = .ok (.putfield 33, 3) := by decide +kernel
theorem dX5_init_48 : decode cX5_init 48 = .ok (.return_, 1) := by decide +kernel
theorem dX5_feed_0 : decode cX5_feed 0 = .ok (.aload_n 0, 1) := by decide +kernel
theorem dX5_feed_1 : decode cX5_feed 1 = .ok (.getfield 10, 3) := by decide +kernel
theorem dX5_feed_4 : decode cX5_feed 4 = .ok (.iload_n 1, 1) := by decide +kernel
theorem dX5_feed_5 : decode cX5_feed 5 = .ok (.invokevirtual 37, 3) := by decide +kernel
theorem dX5_feed_8 : decode cX5_feed 8 = .ok (.ireturn, 1) := by decide +kernel
theorem dX5_scrap_0 : decode cX5_scrap 0 = .ok (.aload_n 0, 1) := by decide +kernel
theorem dX5_scrap_1 : decode cX5_scrap 1 = .ok (.getfield 10, 3) := by decide +kernel
theorem dX5_scrap_4 : decode cX5_scrap 4 = .ok (.invokevirtual 41, 3) := by decide +kernel
theorem dX5_scrap_7 : decode cX5_scrap 7 = .ok (.ireturn, 1) := by decide +kernel
theorem dX5_act_0 : decode cX5_act 0 = .ok (.aload_n 0, 1) := by decide +kernel
theorem dX5_act_1 : decode cX5_act 1 = .ok (.getfield 10, 3) := by decide +kernel
theorem dX5_act_4 : decode cX5_act 4 = .ok (.iload_n 1, 1) := by decide +kernel
theorem dX5_act_5 : decode cX5_act 5 = .ok (.invokevirtual 45, 3) := by decide +kernel
theorem dX5_act_8 : decode cX5_act 8 = .ok (.ireturn, 1) := by decide +kernel
theorem dX5_inForce_0 : decode cX5_inForce 0 = .ok (.iload_n 1, 1) := by decide +kernel
theorem dX5_inForce_1 : decode cX5_inForce 1 = .ok (.invokestatic 48, 3) := by decide +kernel
theorem dX5_inForce_4 : decode cX5_inForce 4 = .ok (.ifCond .eq 14, 3) := by decide +kernel
theorem dX5_inForce_7 : decode cX5_inForce 7 = .ok (.aload_n 0, 1) := by decide +kernel
theorem dX5_inForce_8 : decode cX5_inForce 8 = .ok (.getfield 10, 3) := by decide +kernel
theorem dX5_inForce_11 : decode cX5_inForce 11 = .ok (.iload_n 1, 1) := by decide +kernel
theorem dX5_inForce_12 : decode cX5_inForce 12 = .ok (.invokevirtual 52, 3) := by decide +kernel
theorem dX5_inForce_15 : decode cX5_inForce 15 = .ok (.goto 4, 3) := by decide +kernel
theorem dX5_inForce_18 : decode cX5_inForce 18 = .ok (.iconst (-1), 1) := by decide +kernel
theorem dX5_inForce_19 : decode cX5_inForce 19 = .ok (.ireturn, 1) := by decide +kernel
theorem dX5_tons_0 : decode cX5_tons 0 = .ok (.aload_n 0, 1) := by decide +kernel
theorem dX5_tons_1 : decode cX5_tons 1 = .ok (.getfield 10, 3) := by decide +kernel
theorem dX5_tons_4 : decode cX5_tons 4 = .ok (.iload_n 1, 1) := by decide +kernel
theorem dX5_tons_5 : decode cX5_tons 5 = .ok (.invokevirtual 55, 3) := by decide +kernel
theorem dX5_tons_8 : decode cX5_tons 8 = .ok (.ifCond .eq 15, 3) := by decide +kernel
theorem dX5_tons_11 : decode cX5_tons 11 = .ok (.iload_n 2, 1) := by decide +kernel
theorem dX5_tons_12 : decode cX5_tons 12 = .ok (.iload_n 3, 1) := by decide +kernel
theorem dX5_tons_13 : decode cX5_tons 13 = .ok (.iload 4, 2) := by decide +kernel
theorem dX5_tons_15 : decode cX5_tons 15 = .ok (.iload 5, 2) := by decide +kernel
theorem dX5_tons_17 : decode cX5_tons 17 = .ok (.invokestatic 58, 3) := by decide +kernel
theorem dX5_tons_20 : decode cX5_tons 20 = .ok (.ifCond .ne 6, 3) := by decide +kernel
theorem dX5_tons_23 : decode cX5_tons 23 = .ok (.ldc 62, 2) := by decide +kernel
theorem dX5_tons_25 : decode cX5_tons 25 = .ok (.ireturn, 1) := by decide +kernel
theorem dX5_tons_26 : decode cX5_tons 26 = .ok (.aload_n 0, 1) := by decide +kernel
theorem dX5_tons_27 : decode cX5_tons 27 = .ok (.getfield 10, 3) := by decide +kernel
theorem dX5_tons_30 : decode cX5_tons 30 = .ok (.iload_n 1, 1) := by decide +kernel
theorem dX5_tons_31 : decode cX5_tons 31 = .ok (.iload_n 2, 1) := by decide +kernel
theorem dX5_tons_32 : decode cX5_tons 32 = .ok (.iload_n 3, 1) := by decide +kernel
theorem dX5_tons_33 : decode cX5_tons 33 = .ok (.iload 4, 2) := by decide +kernel
theorem dX5_tons_35 : decode cX5_tons 35 = .ok (.iload 5, 2) := by decide +kernel
theorem dX5_tons_37 : decode cX5_tons 37 = .ok (.invokevirtual 63, 3) := by decide +kernel
theorem dX5_tons_40 : decode cX5_tons 40 = .ok (.ireturn, 1) := by decide +kernel
theorem dX5_shape_0 : decode cX5_shape 0 = .ok (.aload_n 0, 1) := by decide +kernel
theorem dX5_shape_1 : decode cX5_shape 1 = .ok (.getfield 10, 3) := by decide +kernel
theorem dX5_shape_4 : decode cX5_shape 4 = .ok (.iload_n 1, 1) := by decide +kernel
theorem dX5_shape_5 : decode cX5_shape 5 = .ok (.invokevirtual 55, 3) := by decide +kernel
theorem dX5_shape_8 : decode cX5_shape 8 = .ok (.ifCond .eq 23, 3) := by decide +kernel
theorem dX5_shape_11 : decode cX5_shape 11 = .ok (.iload_n 2, 1) := by decide +kernel
theorem dX5_shape_12 : decode cX5_shape 12 = .ok (.iconst 1, 1) := by decide +kernel
theorem dX5_shape_13 : decode cX5_shape 13 = .ok (.sipush 1728, 3) := by decide +kernel
theorem dX5_shape_16 : decode cX5_shape 16 = .ok (.invokestatic 67, 3) := by decide +kernel
theorem dX5_shape_19 : decode cX5_shape 19 = .ok (.ifCond .eq 12, 3) := by decide +kernel
theorem dX5_shape_22 : decode cX5_shape 22 = .ok (.iload_n 3, 1) := by decide +kernel
theorem dX5_shape_23 : decode cX5_shape 23 = .ok (.iconst 0, 1) := by decide +kernel
theorem dX5_shape_24 : decode cX5_shape 24 = .ok (.iconst 3, 1) := by decide +kernel
theorem dX5_shape_25 : decode cX5_shape 25 = .ok (.invokestatic 67, 3) := by decide +kernel
theorem dX5_shape_28 : decode cX5_shape 28 = .ok (.ifCond .ne 6, 3) := by decide +kernel
theorem dX5_shape_31 : decode cX5_shape 31 = .ok (.ldc 62, 2) := by decide +kernel
theorem dX5_shape_33 : decode cX5_shape 33 = .ok (.ireturn, 1) := by decide +kernel
theorem dX5_shape_34 : decode cX5_shape 34 = .ok (.aload_n 0, 1) := by decide +kernel
theorem dX5_shape_35 : decode cX5_shape 35 = .ok (.getfield 10, 3) := by decide +kernel
theorem dX5_shape_38 : decode cX5_shape 38 = .ok (.iload_n 1, 1) := by decide +kernel
theorem dX5_shape_39 : decode cX5_shape 39 = .ok (.iload_n 2, 1) := by decide +kernel
theorem dX5_shape_40 : decode cX5_shape 40 = .ok (.iload_n 3, 1) := by decide +kernel
theorem dX5_shape_41 : decode cX5_shape 41 = .ok (.invokevirtual 71, 3) := by decide +kernel
theorem dX5_shape_44 : decode cX5_shape 44 = .ok (.ireturn, 1) := by decide +kernel
theorem dX5_hull_0 : decode cX5_hull 0 = .ok (.iload_n 1, 1) := by decide +kernel
theorem dX5_hull_1 : decode cX5_hull 1 = .ok (.iload_n 2, 1) := by decide +kernel
theorem dX5_hull_2 : decode cX5_hull 2 = .ok (.iload_n 3, 1) := by decide +kernel
theorem dX5_hull_3 : decode cX5_hull 3 = .ok (.iload 4, 2) := by decide +kernel
theorem dX5_hull_5 : decode cX5_hull 5 = .ok (.invokestatic 58, 3) := by decide +kernel
theorem dX5_hull_8 : decode cX5_hull 8 = .ok (.ifCond .ne 5, 3) := by decide +kernel
theorem dX5_hull_11 : decode cX5_hull 11 = .ok (.iconst (-1), 1) := by decide +kernel
theorem dX5_hull_12 : decode cX5_hull 12 = .ok (.ireturn, 1) := by decide +kernel
theorem dX5_hull_13 : decode cX5_hull 13 = .ok (.aload_n 0, 1) := by decide +kernel
theorem dX5_hull_14 : decode cX5_hull 14 = .ok (.getfield 19, 3) := by decide +kernel
theorem dX5_hull_17 : decode cX5_hull 17 = .ok (.iload_n 1, 1) := by decide +kernel
theorem dX5_hull_18 : decode cX5_hull 18 = .ok (.iload_n 2, 1) := by decide +kernel
theorem dX5_hull_19 : decode cX5_hull 19 = .ok (.iload_n 3, 1) := by decide +kernel
theorem dX5_hull_20 : decode cX5_hull 20 = .ok (.iload 4, 2) := by decide +kernel
theorem dX5_hull_22 : decode cX5_hull 22 = .ok (.invokevirtual 75, 3) := by decide +kernel
theorem dX5_hull_25 : decode cX5_hull 25 = .ok (.ireturn, 1) := by decide +kernel
theorem dX5_alter_0 : decode cX5_alter 0 = .ok (.aload_n 0, 1) := by decide +kernel
theorem dX5_alter_1 : decode cX5_alter 1 = .ok (.getfield 19, 3) := by decide +kernel
theorem dX5_alter_4 : decode cX5_alter 4 = .ok (.iload_n 1, 1) := by decide +kernel
theorem dX5_alter_5 : decode cX5_alter 5 = .ok (.invokevirtual 79, 3) := by decide +kernel
theorem dX5_alter_8 : decode cX5_alter 8 = .ok (.ifCond .eq 15, 3) := by decide +kernel
theorem dX5_alter_11 : decode cX5_alter 11 = .ok (.iload_n 2, 1) := by decide +kernel
theorem dX5_alter_12 : decode cX5_alter 12 = .ok (.iload_n 3, 1) := by decide +kernel
theorem dX5_alter_13 : decode cX5_alter 13 = .ok (.iload 4, 2) := by decide +kernel
theorem dX5_alter_15 : decode cX5_alter 15 = .ok (.iload 5, 2) := by decide +kernel
theorem dX5_alter_17 : decode cX5_alter 17 = .ok (.invokestatic 58, 3) := by decide +kernel
theorem dX5_alter_20 : decode cX5_alter 20 = .ok (.ifCond .ne 5, 3) := by decide +kernel
theorem dX5_alter_23 : decode cX5_alter 23 = .ok (.iconst (-1), 1) := by decide +kernel
theorem dX5_alter_24 : decode cX5_alter 24 = .ok (.ireturn, 1) := by decide +kernel
theorem dX5_alter_25 : decode cX5_alter 25 = .ok (.aload_n 0, 1) := by decide +kernel
theorem dX5_alter_26 : decode cX5_alter 26 = .ok (.getfield 19, 3) := by decide +kernel
theorem dX5_alter_29 : decode cX5_alter 29 = .ok (.iload_n 1, 1) := by decide +kernel
theorem dX5_alter_30 : decode cX5_alter 30 = .ok (.iload_n 2, 1) := by decide +kernel
theorem dX5_alter_31 : decode cX5_alter 31 = .ok (.iload_n 3, 1) := by decide +kernel
theorem dX5_alter_32 : decode cX5_alter 32 = .ok (.iload 4, 2) := by decide +kernel
theorem dX5_alter_34 : decode cX5_alter 34 = .ok (.iload 5, 2) := by decide +kernel
theorem dX5_alter_36 : decode cX5_alter 36 = .ok (.invokevirtual 80, 3) := by decide +kernel
theorem dX5_alter_39 : decode cX5_alter 39 = .ok (.iconst 1, 1) := by decide +kernel
theorem dX5_alter_40 : decode cX5_alter 40 = .ok (.ireturn, 1) := by decide +kernel
theorem dX5_measure_0 : decode cX5_measure 0 = .ok (.aload_n 0, 1) := by decide +kernel
theorem dX5_measure_1 : decode cX5_measure 1 = .ok (.getfield 19, 3) := by decide +kernel
theorem dX5_measure_4 : decode cX5_measure 4 = .ok (.iload_n 1, 1) := by decide +kernel
theorem dX5_measure_5 : decode cX5_measure 5 = .ok (.invokevirtual 79, 3) := by decide +kernel
theorem dX5_measure_8 : decode cX5_measure 8 = .ok (.ifCond .eq 10, 3) := by decide +kernel
theorem dX5_measure_11 : decode cX5_measure 11 = .ok (.iload_n 2, 1) := by decide +kernel
theorem dX5_measure_12 : decode cX5_measure 12 = .ok (.invokestatic 48, 3) := by decide +kernel
theorem dX5_measure_15 : decode cX5_measure 15 = .ok (.ifCond .ne 5, 3) := by decide +kernel
theorem dX5_measure_18 : decode cX5_measure 18 = .ok (.iconst (-1), 1) := by decide +kernel
theorem dX5_measure_19 : decode cX5_measure 19 = .ok (.ireturn, 1) := by decide +kernel
theorem dX5_measure_20 : decode cX5_measure 20 = .ok (.aload_n 0, 1) := by decide +kernel
theorem dX5_measure_21 : decode cX5_measure 21 = .ok (.getfield 10, 3) := by decide +kernel
theorem dX5_measure_24 : decode cX5_measure 24 = .ok (.iload_n 2, 1) := by decide +kernel
theorem dX5_measure_25 : decode cX5_measure 25 = .ok (.invokevirtual 52, 3) := by decide +kernel
theorem dX5_measure_28 : decode cX5_measure 28 = .ok (.istore_n 3, 1) := by decide +kernel
theorem dX5_measure_29 : decode cX5_measure 29 = .ok (.aload_n 0, 1) := by decide +kernel
theorem dX5_measure_30 : decode cX5_measure 30 = .ok (.getfield 10, 3) := by decide +kernel
theorem dX5_measure_33 : decode cX5_measure 33 = .ok (.iload_n 3, 1) := by decide +kernel
theorem dX5_measure_34 : decode cX5_measure 34 = .ok (.invokevirtual 55, 3) := by decide +kernel
theorem dX5_measure_37 : decode cX5_measure 37 = .ok (.ifCond .ne 6, 3) := by decide +kernel
theorem dX5_measure_40 : decode cX5_measure 40 = .ok (.bipush (-4), 2) := by decide +kernel
theorem dX5_measure_42 : decode cX5_measure 42 = .ok (.ireturn, 1) := by decide +kernel
theorem dX5_measure_43 : decode cX5_measure 43 = .ok (.aload_n 0, 1) := by decide +kernel
theorem dX5_measure_44 : decode cX5_measure 44 = .ok (.getfield 10, 3) := by decide +kernel
theorem dX5_measure_47 : decode cX5_measure 47 = .ok (.iload_n 3, 1) := by decide +kernel
theorem dX5_measure_48 : decode cX5_measure 48 = .ok (.aload_n 0, 1) := by decide +kernel
theorem dX5_measure_49 : decode cX5_measure 49 = .ok (.getfield 19, 3) := by decide +kernel
theorem dX5_measure_52 : decode cX5_measure 52 = .ok (.iload_n 1, 1) := by decide +kernel
theorem dX5_measure_53 : decode cX5_measure 53 = .ok (.iconst 0, 1) := by decide +kernel
theorem dX5_measure_54 : decode cX5_measure 54 = .ok (.invokevirtual 84, 3) := by decide +kernel
theorem dX5_measure_57 : decode cX5_measure 57 = .ok (.aload_n 0, 1) := by decide +kernel
theorem dX5_measure_58 : decode cX5_measure 58 = .ok (.getfield 19, 3) := by decide +kernel
theorem dX5_measure_61 : decode cX5_measure 61 = .ok (.iload_n 1, 1) := by decide +kernel
theorem dX5_measure_62 : decode cX5_measure 62 = .ok (.iconst 1, 1) := by decide +kernel
theorem dX5_measure_63 : decode cX5_measure 63 = .ok (.invokevirtual 84, 3) := by decide +kernel
theorem dX5_measure_66 : decode cX5_measure 66 = .ok (.aload_n 0, 1) := by decide +kernel
theorem dX5_measure_67 : decode cX5_measure 67 = .ok (.getfield 19, 3) := by decide +kernel
theorem dX5_measure_70 : decode cX5_measure 70 = .ok (.iload_n 1, 1) := by decide +kernel
theorem dX5_measure_71 : decode cX5_measure 71 = .ok (.iconst 2, 1) := by decide +kernel
theorem dX5_measure_72 : decode cX5_measure 72 = .ok (.invokevirtual 84, 3) := by decide +kernel
theorem dX5_measure_75 : decode cX5_measure 75 = .ok (.aload_n 0, 1) := by decide +kernel
theorem dX5_measure_76 : decode cX5_measure 76 = .ok (.getfield 19, 3) := by decide +kernel
theorem dX5_measure_79 : decode cX5_measure 79 = .ok (.iload_n 1, 1) := by decide +kernel
theorem dX5_measure_80 : decode cX5_measure 80 = .ok (.iconst 3, 1) := by decide +kernel
theorem dX5_measure_81 : decode cX5_measure 81 = .ok (.invokevirtual 84, 3) := by decide +kernel
theorem dX5_measure_84 : decode cX5_measure 84 = .ok (.invokevirtual 63, 3) := by decide +kernel
theorem dX5_measure_87 : decode cX5_measure 87 = .ok (.istore 4, 2) := by decide +kernel
theorem dX5_measure_89 : decode cX5_measure 89 = .ok (.aload_n 0, 1) := by decide +kernel
theorem dX5_measure_90 : decode cX5_measure 90 = .ok (.getfield 19, 3) := by decide +kernel
theorem dX5_measure_93 : decode cX5_measure 93 = .ok (.iload_n 1, 1) := by decide +kernel
theorem dX5_measure_94 : decode cX5_measure 94 = .ok (.iload 4, 2) := by decide +kernel
theorem dX5_measure_96 : decode cX5_measure 96 = .ok (.iload_n 2, 1) := by decide +kernel
theorem dX5_measure_97 : decode cX5_measure 97 = .ok (.iload_n 3, 1) := by decide +kernel
theorem dX5_measure_98 : decode cX5_measure 98 = .ok (.invokevirtual 88, 3) := by decide +kernel
theorem dX5_measure_101 : decode cX5_measure 101 = .ok (.iconst 1, 1) := by decide +kernel
theorem dX5_measure_102 : decode cX5_measure 102 = .ok (.ireturn, 1) := by decide +kernel
theorem dX5_of_0 : decode cX5_of 0 = .ok (.aload_n 0, 1) := by decide +kernel
theorem dX5_of_1 : decode cX5_of 1 = .ok (.getfield 19, 3) := by decide +kernel
theorem dX5_of_4 : decode cX5_of 4 = .ok (.iload_n 1, 1) := by decide +kernel
theorem dX5_of_5 : decode cX5_of 5 = .ok (.invokevirtual 79, 3) := by decide +kernel
theorem dX5_of_8 : decode cX5_of 8 = .ok (.ifCond .eq 13, 3) := by decide +kernel
theorem dX5_of_11 : decode cX5_of 11 = .ok (.iload_n 2, 1) := by decide +kernel
theorem dX5_of_12 : decode cX5_of 12 = .ok (.iconst 0, 1) := by decide +kernel
theorem dX5_of_13 : decode cX5_of 13 = .ok (.bipush 6, 2) := by decide +kernel
theorem dX5_of_15 : decode cX5_of 15 = .ok (.invokestatic 67, 3) := by decide +kernel
theorem dX5_of_18 : decode cX5_of 18 = .ok (.ifCond .ne 6, 3) := by decide +kernel
theorem dX5_of_21 : decode cX5_of 21 = .ok (.ldc 62, 2) := by decide +kernel
theorem dX5_of_23 : decode cX5_of 23 = .ok (.ireturn, 1) := by decide +kernel
theorem dX5_of_24 : decode cX5_of 24 = .ok (.aload_n 0, 1) := by decide +kernel
theorem dX5_of_25 : decode cX5_of 25 = .ok (.getfield 19, 3) := by decide +kernel
theorem dX5_of_28 : decode cX5_of 28 = .ok (.iload_n 1, 1) := by decide +kernel
theorem dX5_of_29 : decode cX5_of 29 = .ok (.iload_n 2, 1) := by decide +kernel
theorem dX5_of_30 : decode cX5_of 30 = .ok (.invokevirtual 84, 3) := by decide +kernel
theorem dX5_of_33 : decode cX5_of 33 = .ok (.ireturn, 1) := by decide +kernel
theorem dX5_sell_0 : decode cX5_sell 0 = .ok (.aload_n 0, 1) := by decide +kernel
theorem dX5_sell_1 : decode cX5_sell 1 = .ok (.iconst 0, 1) := by decide +kernel
theorem dX5_sell_2 : decode cX5_sell 2 = .ok (.iload_n 1, 1) := by decide +kernel
theorem dX5_sell_3 : decode cX5_sell 3 = .ok (.iload_n 2, 1) := by decide +kernel
theorem dX5_sell_4 : decode cX5_sell 4 = .ok (.iload_n 3, 1) := by decide +kernel
theorem dX5_sell_5 : decode cX5_sell 5 = .ok (.iload 4, 2) := by decide +kernel
theorem dX5_sell_7 : decode cX5_sell 7 = .ok (.invokevirtual 92, 3) := by decide +kernel
theorem dX5_sell_10 : decode cX5_sell 10 = .ok (.ireturn, 1) := by decide +kernel
theorem dX5_pledge_0 : decode cX5_pledge 0 = .ok (.aload_n 0, 1) := by decide +kernel
theorem dX5_pledge_1 : decode cX5_pledge 1 = .ok (.iconst 1, 1) := by decide +kernel
theorem dX5_pledge_2 : decode cX5_pledge 2 = .ok (.iload_n 1, 1) := by decide +kernel
theorem dX5_pledge_3 : decode cX5_pledge 3 = .ok (.iload_n 2, 1) := by decide +kernel
theorem dX5_pledge_4 : decode cX5_pledge 4 = .ok (.iload_n 3, 1) := by decide +kernel
theorem dX5_pledge_5 : decode cX5_pledge 5 = .ok (.iload 4, 2) := by decide +kernel
theorem dX5_pledge_7 : decode cX5_pledge 7 = .ok (.invokevirtual 92, 3) := by decide +kernel
theorem dX5_pledge_10 : decode cX5_pledge 10 = .ok (.ireturn, 1) := by decide +kernel
theorem dX5_redeem_0 : decode cX5_redeem 0 = .ok (.aload_n 0, 1) := by decide +kernel
theorem dX5_redeem_1 : decode cX5_redeem 1 = .ok (.getfield 26, 3) := by decide +kernel
theorem dX5_redeem_4 : decode cX5_redeem 4 = .ok (.iload_n 1, 1) := by decide +kernel
theorem dX5_redeem_5 : decode cX5_redeem 5 = .ok (.invokevirtual 95, 3) := by decide +kernel
theorem dX5_redeem_8 : decode cX5_redeem 8 = .ok (.ifCond .eq 14, 3) := by decide +kernel
theorem dX5_redeem_11 : decode cX5_redeem 11 = .ok (.aload_n 0, 1) := by decide +kernel
theorem dX5_redeem_12 : decode cX5_redeem 12 = .ok (.getfield 26, 3) := by decide +kernel
theorem dX5_redeem_15 : decode cX5_redeem 15 = .ok (.iload_n 1, 1) := by decide +kernel
theorem dX5_redeem_16 : decode cX5_redeem 16 = .ok (.invokevirtual 96, 3) := by decide +kernel
theorem dX5_redeem_19 : decode cX5_redeem 19 = .ok (.goto 4, 3) := by decide +kernel
theorem dX5_redeem_22 : decode cX5_redeem 22 = .ok (.iconst (-1), 1) := by decide +kernel
theorem dX5_redeem_23 : decode cX5_redeem 23 = .ok (.ireturn, 1) := by decide +kernel
theorem dX5_forge_0 : decode cX5_forge 0 = .ok (.aload_n 0, 1) := by decide +kernel
theorem dX5_forge_1 : decode cX5_forge 1 = .ok (.getfield 26, 3) := by decide +kernel
theorem dX5_forge_4 : decode cX5_forge 4 = .ok (.iload_n 1, 1) := by decide +kernel
theorem dX5_forge_5 : decode cX5_forge 5 = .ok (.invokevirtual 95, 3) := by decide +kernel
theorem dX5_forge_8 : decode cX5_forge 8 = .ok (.ifCond .eq 14, 3) := by decide +kernel
theorem dX5_forge_11 : decode cX5_forge 11 = .ok (.aload_n 0, 1) := by decide +kernel
theorem dX5_forge_12 : decode cX5_forge 12 = .ok (.getfield 26, 3) := by decide +kernel
theorem dX5_forge_15 : decode cX5_forge 15 = .ok (.iload_n 1, 1) := by decide +kernel
theorem dX5_forge_16 : decode cX5_forge 16 = .ok (.invokevirtual 99, 3) := by decide +kernel
theorem dX5_forge_19 : decode cX5_forge 19 = .ok (.goto 4, 3) := by decide +kernel
theorem dX5_forge_22 : decode cX5_forge 22 = .ok (.iconst (-1), 1) := by decide +kernel
theorem dX5_forge_23 : decode cX5_forge 23 = .ok (.ireturn, 1) := by decide +kernel
theorem dX5_entry_0 : decode cX5_entry 0 = .ok (.aload_n 0, 1) := by decide +kernel
theorem dX5_entry_1 : decode cX5_entry 1 = .ok (.getfield 26, 3) := by decide +kernel
theorem dX5_entry_4 : decode cX5_entry 4 = .ok (.iload_n 1, 1) := by decide +kernel
theorem dX5_entry_5 : decode cX5_entry 5 = .ok (.invokevirtual 95, 3) := by decide +kernel
theorem dX5_entry_8 : decode cX5_entry 8 = .ok (.ifCond .eq 13, 3) := by decide +kernel
theorem dX5_entry_11 : decode cX5_entry 11 = .ok (.iload_n 2, 1) := by decide +kernel
theorem dX5_entry_12 : decode cX5_entry 12 = .ok (.iconst 0, 1) := by decide +kernel
theorem dX5_entry_13 : decode cX5_entry 13 = .ok (.bipush 8, 2) := by decide +kernel
theorem dX5_entry_15 : decode cX5_entry 15 = .ok (.invokestatic 67, 3) := by decide +kernel
theorem dX5_entry_18 : decode cX5_entry 18 = .ok (.ifCond .ne 5, 3) := by decide +kernel
theorem dX5_entry_21 : decode cX5_entry 21 = .ok (.iconst (-1), 1) := by decide +kernel
theorem dX5_entry_22 : decode cX5_entry 22 = .ok (.ireturn, 1) := by decide +kernel
theorem dX5_entry_23 : decode cX5_entry 23 = .ok (.aload_n 0, 1) := by decide +kernel
theorem dX5_entry_24 : decode cX5_entry 24 = .ok (.getfield 26, 3) := by decide +kernel
theorem dX5_entry_27 : decode cX5_entry 27 = .ok (.iload_n 1, 1) := by decide +kernel
theorem dX5_entry_28 : decode cX5_entry 28 = .ok (.iload_n 2, 1) := by decide +kernel
theorem dX5_entry_29 : decode cX5_entry 29 = .ok (.invokevirtual 102, 3) := by decide +kernel
theorem dX5_entry_32 : decode cX5_entry 32 = .ok (.ireturn, 1) := by decide +kernel
theorem dX5_parts_0 : decode cX5_parts 0 = .ok (.aload_n 0, 1) := by decide +kernel
theorem dX5_parts_1 : decode cX5_parts 1 = .ok (.getfield 19, 3) := by decide +kernel
theorem dX5_parts_4 : decode cX5_parts 4 = .ok (.iload_n 1, 1) := by decide +kernel
theorem dX5_parts_5 : decode cX5_parts 5 = .ok (.invokevirtual 79, 3) := by decide +kernel
theorem dX5_parts_8 : decode cX5_parts 8 = .ok (.ifCond .eq 10, 3) := by decide +kernel
theorem dX5_parts_11 : decode cX5_parts 11 = .ok (.iload_n 2, 1) := by decide +kernel
theorem dX5_parts_12 : decode cX5_parts 12 = .ok (.invokestatic 103, 3) := by decide +kernel
theorem dX5_parts_15 : decode cX5_parts 15 = .ok (.ifCond .ne 5, 3) := by decide +kernel
theorem dX5_parts_18 : decode cX5_parts 18 = .ok (.iconst (-1), 1) := by decide +kernel
theorem dX5_parts_19 : decode cX5_parts 19 = .ok (.ireturn, 1) := by decide +kernel
theorem dX5_parts_20 : decode cX5_parts 20 = .ok (.iload_n 3, 1) := by decide +kernel
theorem dX5_parts_21 : decode cX5_parts 21 = .ok (.ifCond .eq 15, 3) := by decide +kernel
theorem dX5_parts_24 : decode cX5_parts 24 = .ok (.aload_n 0, 1) := by decide +kernel
theorem dX5_parts_25 : decode cX5_parts 25 = .ok (.getfield 26, 3) := by decide +kernel
theorem dX5_parts_28 : decode cX5_parts 28 = .ok (.iload_n 1, 1) := by decide +kernel
theorem dX5_parts_29 : decode cX5_parts 29 = .ok (.iload_n 2, 1) := by decide +kernel
theorem dX5_parts_30 : decode cX5_parts 30 = .ok (.invokevirtual 106, 3) := by decide +kernel
theorem dX5_parts_33 : decode cX5_parts 33 = .ok (.goto 12, 3) := by decide +kernel
theorem dX5_parts_36 : decode cX5_parts 36 = .ok (.aload_n 0, 1) := by decide +kernel
theorem dX5_parts_37 : decode cX5_parts 37 = .ok (.getfield 26, 3) := by decide +kernel
theorem dX5_parts_40 : decode cX5_parts 40 = .ok (.iload_n 1, 1) := by decide +kernel
theorem dX5_parts_41 : decode cX5_parts 41 = .ok (.iload_n 2, 1) := by decide +kernel
theorem dX5_parts_42 : decode cX5_parts 42 = .ok (.invokevirtual 109, 3) := by decide +kernel
theorem dX5_parts_45 : decode cX5_parts 45 = .ok (.ireturn, 1) := by decide +kernel
theorem dX5_manager_0 : decode cX5_manager 0 = .ok (.aload_n 0, 1) := by decide +kernel
theorem dX5_manager_1 : decode cX5_manager 1 = .ok (.getfield 19, 3) := by decide +kernel
theorem dX5_manager_4 : decode cX5_manager 4 = .ok (.iload_n 1, 1) := by decide +kernel
theorem dX5_manager_5 : decode cX5_manager 5 = .ok (.invokevirtual 79, 3) := by decide +kernel
theorem dX5_manager_8 : decode cX5_manager 8 = .ok (.ifCond .eq 14, 3) := by decide +kernel
theorem dX5_manager_11 : decode cX5_manager 11 = .ok (.aload_n 0, 1) := by decide +kernel
theorem dX5_manager_12 : decode cX5_manager 12 = .ok (.getfield 26, 3) := by decide +kernel
theorem dX5_manager_15 : decode cX5_manager 15 = .ok (.iload_n 1, 1) := by decide +kernel
theorem dX5_manager_16 : decode cX5_manager 16 = .ok (.invokevirtual 112, 3) := by decide +kernel
theorem dX5_manager_19 : decode cX5_manager 19 = .ok (.goto 4, 3) := by decide +kernel
theorem dX5_manager_22 : decode cX5_manager 22 = .ok (.iconst (-1), 1) := by decide +kernel
theorem dX5_manager_23 : decode cX5_manager 23 = .ok (.ireturn, 1) := by decide +kernel
theorem dX5_held_0 : decode cX5_held 0 = .ok (.aload_n 0, 1) := by decide +kernel
theorem dX5_held_1 : decode cX5_held 1 = .ok (.getfield 19, 3) := by decide +kernel
theorem dX5_held_4 : decode cX5_held 4 = .ok (.iload_n 1, 1) := by decide +kernel
theorem dX5_held_5 : decode cX5_held 5 = .ok (.invokevirtual 79, 3) := by decide +kernel
theorem dX5_held_8 : decode cX5_held 8 = .ok (.ifCond .eq 10, 3) := by decide +kernel
theorem dX5_held_11 : decode cX5_held 11 = .ok (.iload_n 2, 1) := by decide +kernel
theorem dX5_held_12 : decode cX5_held 12 = .ok (.invokestatic 103, 3) := by decide +kernel
theorem dX5_held_15 : decode cX5_held 15 = .ok (.ifCond .ne 5, 3) := by decide +kernel
theorem dX5_held_18 : decode cX5_held 18 = .ok (.iconst (-1), 1) := by decide +kernel
theorem dX5_held_19 : decode cX5_held 19 = .ok (.ireturn, 1) := by decide +kernel
theorem dX5_held_20 : decode cX5_held 20 = .ok (.aload_n 0, 1) := by decide +kernel
theorem dX5_held_21 : decode cX5_held 21 = .ok (.getfield 26, 3) := by decide +kernel
theorem dX5_held_24 : decode cX5_held 24 = .ok (.iload_n 1, 1) := by decide +kernel
theorem dX5_held_25 : decode cX5_held 25 = .ok (.iload_n 2, 1) := by decide +kernel
theorem dX5_held_26 : decode cX5_held 26 = .ok (.invokevirtual 115, 3) := by decide +kernel
theorem dX5_held_29 : decode cX5_held 29 = .ok (.ireturn, 1) := by decide +kernel
theorem dX5_paper_0 : decode cX5_paper 0 = .ok (.iload_n 1, 1) := by decide +kernel
theorem dX5_paper_1 : decode cX5_paper 1 = .ok (.invokestatic 48, 3) := by decide +kernel
theorem dX5_paper_4 : decode cX5_paper 4 = .ok (.ifCond .eq 47, 3) := by decide +kernel
theorem dX5_paper_7 : decode cX5_paper 7 = .ok (.iload_n 2, 1) := by decide +kernel
theorem dX5_paper_8 : decode cX5_paper 8 = .ok (.invokestatic 48, 3) := by decide +kernel
theorem dX5_paper_11 : decode cX5_paper 11 = .ok (.ifCond .eq 40, 3) := by decide +kernel
theorem dX5_paper_14 : decode cX5_paper 14 = .ok (.iload_n 1, 1) := by decide +kernel
theorem dX5_paper_15 : decode cX5_paper 15 = .ok (.iload_n 2, 1) := by decide +kernel
theorem dX5_paper_16 : decode cX5_paper 16 = .ok (.if_icmp .gt 35, 3) := by decide +kernel
theorem dX5_paper_19 : decode cX5_paper 19 = .ok (.iload_n 3, 1) := by decide +kernel
theorem dX5_paper_20 : decode cX5_paper 20 = .ok (.invokestatic 118, 3) := by decide +kernel
theorem dX5_paper_23 : decode cX5_paper 23 = .ok (.ifCond .eq 28, 3) := by decide +kernel
theorem dX5_paper_26 : decode cX5_paper 26 = .ok (.iload 4, 2) := by decide +kernel
theorem dX5_paper_28 : decode cX5_paper 28 = .ok (.invokestatic 118, 3) := by decide +kernel
theorem dX5_paper_31 : decode cX5_paper 31 = .ok (.ifCond .eq 20, 3) := by decide +kernel
theorem dX5_paper_34 : decode cX5_paper 34 = .ok (.iload_n 3, 1) := by decide +kernel
theorem dX5_paper_35 : decode cX5_paper 35 = .ok (.iload 4, 2) := by decide +kernel
theorem dX5_paper_37 : decode cX5_paper 37 = .ok (.if_icmp .gt 14, 3) := by decide +kernel
theorem dX5_paper_40 : decode cX5_paper 40 = .ok (.iload 5, 2) := by decide +kernel
theorem dX5_paper_42 : decode cX5_paper 42 = .ok (.iconst 0, 1) := by decide +kernel
theorem dX5_paper_43 : decode cX5_paper 43 = .ok (.bipush 9, 2) := by decide +kernel
theorem dX5_paper_45 : decode cX5_paper 45 = .ok (.invokestatic 67, 3) := by decide +kernel
theorem dX5_paper_48 : decode cX5_paper 48 = .ok (.ifCond .ne 5, 3) := by decide +kernel
theorem dX5_paper_51 : decode cX5_paper 51 = .ok (.iconst (-1), 1) := by decide +kernel
theorem dX5_paper_52 : decode cX5_paper 52 = .ok (.ireturn, 1) := by decide +kernel
theorem dX5_paper_53 : decode cX5_paper 53 = .ok (.aload_n 0, 1) := by decide +kernel
theorem dX5_paper_54 : decode cX5_paper 54 = .ok (.getfield 33, 3) := by decide +kernel
theorem dX5_paper_57 : decode cX5_paper 57 = .ok (.iload_n 1, 1) := by decide +kernel
theorem dX5_paper_58 : decode cX5_paper 58 = .ok (.iload_n 2, 1) := by decide +kernel
theorem dX5_paper_59 : decode cX5_paper 59 = .ok (.iload_n 3, 1) := by decide +kernel
theorem dX5_paper_60 : decode cX5_paper 60 = .ok (.iload 4, 2) := by decide +kernel
theorem dX5_paper_62 : decode cX5_paper 62 = .ok (.iload 5, 2) := by decide +kernel
theorem dX5_paper_64 : decode cX5_paper 64 = .ok (.invokevirtual 121, 3) := by decide +kernel
theorem dX5_paper_67 : decode cX5_paper 67 = .ok (.ireturn, 1) := by decide +kernel
theorem dX5_witness_0 : decode cX5_witness 0 = .ok (.aload_n 0, 1) := by decide +kernel
theorem dX5_witness_1 : decode cX5_witness 1 = .ok (.getfield 33, 3) := by decide +kernel
theorem dX5_witness_4 : decode cX5_witness 4 = .ok (.iload_n 1, 1) := by decide +kernel
theorem dX5_witness_5 : decode cX5_witness 5 = .ok (.iload_n 2, 1) := by decide +kernel
theorem dX5_witness_6 : decode cX5_witness 6 = .ok (.invokevirtual 123, 3) := by decide +kernel
theorem dX5_witness_9 : decode cX5_witness 9 = .ok (.ifCond .eq 16, 3) := by decide +kernel
theorem dX5_witness_12 : decode cX5_witness 12 = .ok (.aload_n 0, 1) := by decide +kernel
theorem dX5_witness_13 : decode cX5_witness 13 = .ok (.getfield 33, 3) := by decide +kernel
theorem dX5_witness_16 : decode cX5_witness 16 = .ok (.iload_n 1, 1) := by decide +kernel
theorem dX5_witness_17 : decode cX5_witness 17 = .ok (.iload_n 2, 1) := by decide +kernel
theorem dX5_witness_18 : decode cX5_witness 18 = .ok (.iload_n 3, 1) := by decide +kernel
theorem dX5_witness_19 : decode cX5_witness 19 = .ok (.invokevirtual 127, 3) := by decide +kernel
theorem dX5_witness_22 : decode cX5_witness 22 = .ok (.goto 4, 3) := by decide +kernel
theorem dX5_witness_25 : decode cX5_witness 25 = .ok (.iconst (-1), 1) := by decide +kernel
theorem dX5_witness_26 : decode cX5_witness 26 = .ok (.ireturn, 1) := by decide +kernel
theorem dX5_alike_0 : decode cX5_alike 0 = .ok (.aload_n 0, 1) := by decide +kernel
theorem dX5_alike_1 : decode cX5_alike 1 = .ok (.getfield 33, 3) := by decide +kernel
theorem dX5_alike_4 : decode cX5_alike 4 = .ok (.iload_n 1, 1) := by decide +kernel
theorem dX5_alike_5 : decode cX5_alike 5 = .ok (.iload_n 2, 1) := by decide +kernel
theorem dX5_alike_6 : decode cX5_alike 6 = .ok (.invokevirtual 123, 3) := by decide +kernel
theorem dX5_alike_9 : decode cX5_alike 9 = .ok (.ifCond .ne 5, 3) := by decide +kernel
theorem dX5_alike_12 : decode cX5_alike 12 = .ok (.iconst (-1), 1) := by decide +kernel
theorem dX5_alike_13 : decode cX5_alike 13 = .ok (.ireturn, 1) := by decide +kernel
theorem dX5_alike_14 : decode cX5_alike 14 = .ok (.aload_n 0, 1) := by decide +kernel
theorem dX5_alike_15 : decode cX5_alike 15 = .ok (.getfield 33, 3) := by decide +kernel
theorem dX5_alike_18 : decode cX5_alike 18 = .ok (.iload_n 1, 1) := by decide +kernel
theorem dX5_alike_19 : decode cX5_alike 19 = .ok (.iload_n 2, 1) := by decide +kernel
theorem dX5_alike_20 : decode cX5_alike 20 = .ok (.invokevirtual 131, 3) := by decide +kernel
theorem dX5_alike_23 : decode cX5_alike 23 = .ok (.ifCond .eq 7, 3) := by decide +kernel
theorem dX5_alike_26 : decode cX5_alike 26 = .ok (.iconst 1, 1) := by decide +kernel
theorem dX5_alike_27 : decode cX5_alike 27 = .ok (.goto 4, 3) := by decide +kernel
theorem dX5_alike_30 : decode cX5_alike 30 = .ok (.iconst 0, 1) := by decide +kernel
theorem dX5_alike_31 : decode cX5_alike 31 = .ok (.ireturn, 1) := by decide +kernel
theorem dX5_group_0 : decode cX5_group 0 = .ok (.aload_n 0, 1) := by decide +kernel
theorem dX5_group_1 : decode cX5_group 1 = .ok (.getfield 33, 3) := by decide +kernel
theorem dX5_group_4 : decode cX5_group 4 = .ok (.iload_n 1, 1) := by decide +kernel
theorem dX5_group_5 : decode cX5_group 5 = .ok (.invokevirtual 134, 3) := by decide +kernel
theorem dX5_group_8 : decode cX5_group 8 = .ok (.ifCond .eq 14, 3) := by decide +kernel
theorem dX5_group_11 : decode cX5_group 11 = .ok (.aload_n 0, 1) := by decide +kernel
theorem dX5_group_12 : decode cX5_group 12 = .ok (.getfield 33, 3) := by decide +kernel
theorem dX5_group_15 : decode cX5_group 15 = .ok (.iload_n 1, 1) := by decide +kernel
theorem dX5_group_16 : decode cX5_group 16 = .ok (.invokevirtual 135, 3) := by decide +kernel
theorem dX5_group_19 : decode cX5_group 19 = .ok (.goto 4, 3) := by decide +kernel
theorem dX5_group_22 : decode cX5_group 22 = .ok (.iconst (-1), 1) := by decide +kernel
theorem dX5_group_23 : decode cX5_group 23 = .ok (.ireturn, 1) := by decide +kernel
theorem dX5_groups_0 : decode cX5_groups 0 = .ok (.aload_n 0, 1) := by decide +kernel
theorem dX5_groups_1 : decode cX5_groups 1 = .ok (.getfield 33, 3) := by decide +kernel
theorem dX5_groups_4 : decode cX5_groups 4 = .ok (.invokevirtual 138, 3) := by decide +kernel
theorem dX5_groups_7 : decode cX5_groups 7 = .ok (.ireturn, 1) := by decide +kernel
theorem dX5_many_0 : decode cX5_many 0 = .ok (.iload_n 1, 1) := by decide +kernel
theorem dX5_many_1 : decode cX5_many 1 = .ok (.tableswitch 123 0 8 #[51, 59, 67, 75, 83, 91, 99, 107, 115], 51) := by decide +kernel
theorem dX5_many_52 : decode cX5_many 52 = .ok (.aload_n 0, 1) := by decide +kernel
theorem dX5_many_53 : decode cX5_many 53 = .ok (.getfield 10, 3) := by decide +kernel
theorem dX5_many_56 : decode cX5_many 56 = .ok (.invokevirtual 141, 3) := by decide +kernel
theorem dX5_many_59 : decode cX5_many 59 = .ok (.ireturn, 1) := by decide +kernel
theorem dX5_many_60 : decode cX5_many 60 = .ok (.aload_n 0, 1) := by decide +kernel
theorem dX5_many_61 : decode cX5_many 61 = .ok (.getfield 19, 3) := by decide +kernel
theorem dX5_many_64 : decode cX5_many 64 = .ok (.invokevirtual 144, 3) := by decide +kernel
theorem dX5_many_67 : decode cX5_many 67 = .ok (.ireturn, 1) := by decide +kernel
theorem dX5_many_68 : decode cX5_many 68 = .ok (.aload_n 0, 1) := by decide +kernel
theorem dX5_many_69 : decode cX5_many 69 = .ok (.getfield 26, 3) := by decide +kernel
theorem dX5_many_72 : decode cX5_many 72 = .ok (.invokevirtual 145, 3) := by decide +kernel
theorem dX5_many_75 : decode cX5_many 75 = .ok (.ireturn, 1) := by decide +kernel
theorem dX5_many_76 : decode cX5_many 76 = .ok (.aload_n 0, 1) := by decide +kernel
theorem dX5_many_77 : decode cX5_many 77 = .ok (.getfield 26, 3) := by decide +kernel
theorem dX5_many_80 : decode cX5_many 80 = .ok (.invokevirtual 146, 3) := by decide +kernel
theorem dX5_many_83 : decode cX5_many 83 = .ok (.ireturn, 1) := by decide +kernel
theorem dX5_many_84 : decode cX5_many 84 = .ok (.aload_n 0, 1) := by decide +kernel
theorem dX5_many_85 : decode cX5_many 85 = .ok (.getfield 26, 3) := by decide +kernel
theorem dX5_many_88 : decode cX5_many 88 = .ok (.invokevirtual 149, 3) := by decide +kernel
theorem dX5_many_91 : decode cX5_many 91 = .ok (.ireturn, 1) := by decide +kernel
theorem dX5_many_92 : decode cX5_many 92 = .ok (.aload_n 0, 1) := by decide +kernel
theorem dX5_many_93 : decode cX5_many 93 = .ok (.getfield 26, 3) := by decide +kernel
theorem dX5_many_96 : decode cX5_many 96 = .ok (.invokevirtual 152, 3) := by decide +kernel
theorem dX5_many_99 : decode cX5_many 99 = .ok (.ireturn, 1) := by decide +kernel
theorem dX5_many_100 : decode cX5_many 100 = .ok (.aload_n 0, 1) := by decide +kernel
theorem dX5_many_101 : decode cX5_many 101 = .ok (.getfield 33, 3) := by decide +kernel
theorem dX5_many_104 : decode cX5_many 104 = .ok (.invokevirtual 155, 3) := by decide +kernel
theorem dX5_many_107 : decode cX5_many 107 = .ok (.ireturn, 1) := by decide +kernel
theorem dX5_many_108 : decode cX5_many 108 = .ok (.aload_n 0, 1) := by decide +kernel
theorem dX5_many_109 : decode cX5_many 109 = .ok (.getfield 33, 3) := by decide +kernel
theorem dX5_many_112 : decode cX5_many 112 = .ok (.invokevirtual 156, 3) := by decide +kernel
theorem dX5_many_115 : decode cX5_many 115 = .ok (.ireturn, 1) := by decide +kernel
theorem dX5_many_116 : decode cX5_many 116 = .ok (.aload_n 0, 1) := by decide +kernel
theorem dX5_many_117 : decode cX5_many 117 = .ok (.getfield 10, 3) := by decide +kernel
theorem dX5_many_120 : decode cX5_many 120 = .ok (.invokevirtual 159, 3) := by decide +kernel
theorem dX5_many_123 : decode cX5_many 123 = .ok (.ireturn, 1) := by decide +kernel
theorem dX5_many_124 : decode cX5_many 124 = .ok (.iconst (-1), 1) := by decide +kernel
theorem dX5_many_125 : decode cX5_many 125 = .ok (.ireturn, 1) := by decide +kernel
theorem dX5_enter_0 : decode cX5_enter 0 = .ok (.aload_n 0, 1) := by decide +kernel
theorem dX5_enter_1 : decode cX5_enter 1 = .ok (.getfield 19, 3) := by decide +kernel
theorem dX5_enter_4 : decode cX5_enter 4 = .ok (.iload_n 2, 1) := by decide +kernel
theorem dX5_enter_5 : decode cX5_enter 5 = .ok (.invokevirtual 79, 3) := by decide +kernel
theorem dX5_enter_8 : decode cX5_enter 8 = .ok (.ifCond .eq 35, 3) := by decide +kernel
theorem dX5_enter_11 : decode cX5_enter 11 = .ok (.iload_n 3, 1) := by decide +kernel
theorem dX5_enter_12 : decode cX5_enter 12 = .ok (.invokestatic 103, 3) := by decide +kernel
theorem dX5_enter_15 : decode cX5_enter 15 = .ok (.ifCond .eq 28, 3) := by decide +kernel
theorem dX5_enter_18 : decode cX5_enter 18 = .ok (.iload 4, 2) := by decide +kernel
theorem dX5_enter_20 : decode cX5_enter 20 = .ok (.invokestatic 103, 3) := by decide +kernel
theorem dX5_enter_23 : decode cX5_enter 23 = .ok (.ifCond .eq 20, 3) := by decide +kernel
theorem dX5_enter_26 : decode cX5_enter 26 = .ok (.iload_n 3, 1) := by decide +kernel
theorem dX5_enter_27 : decode cX5_enter 27 = .ok (.iload 4, 2) := by decide +kernel
theorem dX5_enter_29 : decode cX5_enter 29 = .ok (.if_icmp .eq 14, 3) := by decide +kernel
theorem dX5_enter_32 : decode cX5_enter 32 = .ok (.iload 5, 2) := by decide +kernel
theorem dX5_enter_34 : decode cX5_enter 34 = .ok (.iconst 1, 1) := by decide +kernel
theorem dX5_enter_35 : decode cX5_enter 35 = .ok (.bipush 64, 2) := by decide +kernel
theorem dX5_enter_37 : decode cX5_enter 37 = .ok (.invokestatic 67, 3) := by decide +kernel
theorem dX5_enter_40 : decode cX5_enter 40 = .ok (.ifCond .ne 5, 3) := by decide +kernel
theorem dX5_enter_43 : decode cX5_enter 43 = .ok (.iconst (-1), 1) := by decide +kernel
theorem dX5_enter_44 : decode cX5_enter 44 = .ok (.ireturn, 1) := by decide +kernel
theorem dX5_enter_45 : decode cX5_enter 45 = .ok (.aload_n 0, 1) := by decide +kernel
theorem dX5_enter_46 : decode cX5_enter 46 = .ok (.getfield 26, 3) := by decide +kernel
theorem dX5_enter_49 : decode cX5_enter 49 = .ok (.iload_n 1, 1) := by decide +kernel
theorem dX5_enter_50 : decode cX5_enter 50 = .ok (.iload_n 2, 1) := by decide +kernel
theorem dX5_enter_51 : decode cX5_enter 51 = .ok (.iload_n 3, 1) := by decide +kernel
theorem dX5_enter_52 : decode cX5_enter 52 = .ok (.iload 4, 2) := by decide +kernel
theorem dX5_enter_54 : decode cX5_enter 54 = .ok (.iload 5, 2) := by decide +kernel
theorem dX5_enter_56 : decode cX5_enter 56 = .ok (.bipush (-4), 2) := by decide +kernel
theorem dX5_enter_58 : decode cX5_enter 58 = .ok (.invokevirtual 162, 3) := by decide +kernel
theorem dX5_enter_61 : decode cX5_enter 61 = .ok (.ireturn, 1) := by decide +kernel
theorem dX5_isWithin_0 : decode cX5_isWithin 0 = .ok (.iload_n 1, 1) := by decide +kernel
theorem dX5_isWithin_1 : decode cX5_isWithin 1 = .ok (.iload_n 0, 1) := by decide +kernel
theorem dX5_isWithin_2 : decode cX5_isWithin 2 = .ok (.if_icmp .gt 12, 3) := by decide +kernel
theorem dX5_isWithin_5 : decode cX5_isWithin 5 = .ok (.iload_n 0, 1) := by decide +kernel
theorem dX5_isWithin_6 : decode cX5_isWithin 6 = .ok (.iload_n 2, 1) := by decide +kernel
theorem dX5_isWithin_7 : decode cX5_isWithin 7 = .ok (.if_icmp .gt 7, 3) := by decide +kernel
theorem dX5_isWithin_10 : decode cX5_isWithin 10 = .ok (.iconst 1, 1) := by decide +kernel
theorem dX5_isWithin_11 : decode cX5_isWithin 11 = .ok (.goto 4, 3) := by decide +kernel
theorem dX5_isWithin_14 : decode cX5_isWithin 14 = .ok (.iconst 0, 1) := by decide +kernel
theorem dX5_isWithin_15 : decode cX5_isWithin 15 = .ok (.ireturn, 1) := by decide +kernel
theorem dX5_isDay_0 : decode cX5_isDay 0 = .ok (.iload_n 0, 1) := by decide +kernel
theorem dX5_isDay_1 : decode cX5_isDay 1 = .ok (.iconst 0, 1) := by decide +kernel
theorem dX5_isDay_2 : decode cX5_isDay 2 = .ok (.sipush 999, 3) := by decide +kernel
theorem dX5_isDay_5 : decode cX5_isDay 5 = .ok (.invokestatic 67, 3) := by decide +kernel
theorem dX5_isDay_8 : decode cX5_isDay 8 = .ok (.ireturn, 1) := by decide +kernel
theorem dX5_isMeasure_0 : decode cX5_isMeasure 0 = .ok (.iload_n 0, 1) := by decide +kernel
theorem dX5_isMeasure_1 : decode cX5_isMeasure 1 = .ok (.iconst 1, 1) := by decide +kernel
theorem dX5_isMeasure_2 : decode cX5_isMeasure 2 = .ok (.bipush 99, 2) := by decide +kernel
theorem dX5_isMeasure_4 : decode cX5_isMeasure 4 = .ok (.invokestatic 67, 3) := by decide +kernel
theorem dX5_isMeasure_7 : decode cX5_isMeasure 7 = .ok (.ireturn, 1) := by decide +kernel
theorem dX5_areSizes_0 : decode cX5_areSizes 0 = .ok (.iload_n 0, 1) := by decide +kernel
theorem dX5_areSizes_1 : decode cX5_areSizes 1 = .ok (.invokestatic 118, 3) := by decide +kernel
theorem dX5_areSizes_4 : decode cX5_areSizes 4 = .ok (.ifCond .eq 32, 3) := by decide +kernel
theorem dX5_areSizes_7 : decode cX5_areSizes 7 = .ok (.iload_n 1, 1) := by decide +kernel
theorem dX5_areSizes_8 : decode cX5_areSizes 8 = .ok (.invokestatic 118, 3) := by decide +kernel
theorem dX5_areSizes_11 : decode cX5_areSizes 11 = .ok (.ifCond .eq 25, 3) := by decide +kernel
theorem dX5_areSizes_14 : decode cX5_areSizes 14 = .ok (.iload_n 2, 1) := by decide +kernel
theorem dX5_areSizes_15 : decode cX5_areSizes 15 = .ok (.invokestatic 118, 3) := by decide +kernel
theorem dX5_areSizes_18 : decode cX5_areSizes 18 = .ok (.ifCond .eq 18, 3) := by decide +kernel
theorem dX5_areSizes_21 : decode cX5_areSizes 21 = .ok (.iload_n 3, 1) := by decide +kernel
theorem dX5_areSizes_22 : decode cX5_areSizes 22 = .ok (.iconst 0, 1) := by decide +kernel
theorem dX5_areSizes_23 : decode cX5_areSizes 23 = .ok (.sipush 999, 3) := by decide +kernel
theorem dX5_areSizes_26 : decode cX5_areSizes 26 = .ok (.invokestatic 67, 3) := by decide +kernel
theorem dX5_areSizes_29 : decode cX5_areSizes 29 = .ok (.ifCond .eq 7, 3) := by decide +kernel
theorem dX5_areSizes_32 : decode cX5_areSizes 32 = .ok (.iconst 1, 1) := by decide +kernel
theorem dX5_areSizes_33 : decode cX5_areSizes 33 = .ok (.goto 4, 3) := by decide +kernel
theorem dX5_areSizes_36 : decode cX5_areSizes 36 = .ok (.iconst 0, 1) := by decide +kernel
theorem dX5_areSizes_37 : decode cX5_areSizes 37 = .ok (.ireturn, 1) := by decide +kernel
theorem dX5_isPerson_0 : decode cX5_isPerson 0 = .ok (.iload_n 0, 1) := by decide +kernel
theorem dX5_isPerson_1 : decode cX5_isPerson 1 = .ok (.iconst 0, 1) := by decide +kernel
theorem dX5_isPerson_2 : decode cX5_isPerson 2 = .ok (.bipush 7, 2) := by decide +kernel
theorem dX5_isPerson_4 : decode cX5_isPerson 4 = .ok (.invokestatic 67, 3) := by decide +kernel
theorem dX5_isPerson_7 : decode cX5_isPerson 7 = .ok (.ireturn, 1) := by decide +kernel
