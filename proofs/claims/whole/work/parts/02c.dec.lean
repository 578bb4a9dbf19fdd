theorem dX6_init_0 : decode cX6_init 0 = .ok (.aload_n 0, 1) := by decide +kernel
theorem dX6_init_1 : decode cX6_init 1 = .ok (.invokespecial 1, 3) := by decide +kernel
theorem dX6_init_4 : decode cX6_init 4 = .ok (.aload_n 0, 1) := by decide +kernel
theorem dX6_init_5 : decode cX6_init 5 = .ok (.bipush 40, 2) := by decide +kernel
theorem dX6_init_7 : decode cX6_init 7 = .ok (.newarray .int, 2) := by decide +kernel
theorem dX6_init_9 : decode cX6_init 9 = .ok (.putfield 7, 3) := by decide +kernel
theorem dX6_init_12 : decode cX6_init 12 = .ok (.aload_n 0, 1) := by decide +kernel
theorem dX6_init_13 : decode cX6_init 13 = .ok (.iconst 5, 1) := by decide +kernel
theorem dX6_init_14 : decode cX6_init 14 = .ok (.newarray .int, 2) := by decide +kernel
theorem dX6_init_16 : decode cX6_init 16 = .ok (.putfield 13, 3) := by decide +kernel
theorem dX6_init_19 : decode cX6_init 19 = .ok (.aload_n 0, 1) := by decide +kernel
theorem dX6_init_20 : decode cX6_init 20 = .ok (.iconst 5, 1) := by decide +kernel
theorem dX6_init_21 : decode cX6_init 21 = .ok (.newarray .int, 2) := by decide +kernel
theorem dX6_init_23 : decode cX6_init 23 = .ok (.putfield 16, 3) := by decide +kernel
theorem dX6_init_26 : decode cX6_init 26 = .ok (.aload_n 0, 1) := by decide +kernel
theorem dX6_init_27 : decode cX6_init 27 = .ok (.sipush 200, 3) := by decide +kernel
theorem dX6_init_30 : decode cX6_init 30 = .ok (.newarray .int, 2) := by decide +kernel
theorem dX6_init_32 : decode cX6_init 32 = .ok (.putfield 19, 3) := by decide +kernel
theorem dX6_init_35 : decode cX6_init 35 = .ok (.aload_n 0, 1) := by decide +kernel
theorem dX6_init_36 : decode cX6_init 36 = .ok (.bipush 20, 2) := by decide +kernel
theorem dX6_init_38 : decode cX6_init 38 = .ok (.newarray .int, 2) := by decide +kernel
theorem dX6_init_40 : decode cX6_init 40 = .ok (.putfield 22, 3) := by decide +kernel
theorem dX6_init_43 : decode cX6_init 43 = .ok (.aload_n 0, 1) := by decide +kernel
theorem dX6_init_44 : decode cX6_init 44 = .ok (.iconst 5, 1) := by decide +kernel
theorem dX6_init_45 : decode cX6_init 45 = .ok (.newarray .int, 2) := by decide +kernel
theorem dX6_init_47 : decode cX6_init 47 = .ok (.putfield 25, 3) := by decide +kernel
theorem dX6_init_50 : decode cX6_init 50 = .ok (.aload_n 0, 1) := by decide +kernel
theorem dX6_init_51 : decode cX6_init 51 = .ok (.iconst 5, 1) := by decide +kernel
theorem dX6_init_52 : decode cX6_init 52 = .ok (.newarray .int, 2) := by decide +kernel
theorem dX6_init_54 : decode cX6_init 54 = .ok (.putfield 28, 3) := by decide +kernel
theorem dX6_init_57 : decode cX6_init 57 = .ok (.aload_n 0, 1) := by decide +kernel
theorem dX6_init_58 : decode cX6_init 58 = .ok (.iconst 5, 1) := by decide +kernel
theorem dX6_init_59 : decode cX6_init 59 = .ok (.newarray .int, 2) := by decide +kernel
theorem dX6_init_61 : decode cX6_init 61 = .ok (.putfield 31, 3) := by decide +kernel
theorem dX6_init_64 : decode cX6_init 64 = .ok (.aload_n 0, 1) := by decide +kernel
theorem dX6_init_65 : decode cX6_init 65 = .ok (.bipush 60, 2) := by decide +kernel
theorem dX6_init_67 : decode cX6_init 67 = .ok (.newarray .int, 2) := by decide +kernel
theorem dX6_init_69 : decode cX6_init 69 = .ok (.putfield 34, 3) := by decide +kernel
theorem dX6_init_72 : decode cX6_init 72 = .ok (.aload_n 0, 1) := by decide +kernel
theorem dX6_init_73 : decode cX6_init 73 = .ok (.bipush 60, 2) := by decide +kernel
theorem dX6_init_75 : decode cX6_init 75 = .ok (.newarray .int, 2) := by decide +kernel
theorem dX6_init_77 : decode cX6_init 77 = .ok (.putfield 37, 3) := by decide +kernel
theorem dX6_init_80 : decode cX6_init 80 = .ok (.aload_n 0, 1) := by decide +kernel
theorem dX6_init_81 : decode cX6_init 81 = .ok (.bipush 60, 2) := by decide +kernel
theorem dX6_init_83 : decode cX6_init 83 = .ok (.newarray .int, 2) := by decide +kernel
theorem dX6_init_85 : decode cX6_init 85 = .ok (.putfield 40, 3) := by decide +kernel
theorem dX6_init_88 : decode cX6_init 88 = .ok (.aload_n 0, 1) := by decide +kernel
theorem dX6_init_89 : decode cX6_init 89 = .ok (.bipush 60, 2) := by decide +kernel
theorem dX6_init_91 : decode cX6_init 91 = .ok (.newarray .int, 2) := by decide +kernel
theorem dX6_init_93 : decode cX6_init 93 = .ok (.putfield 43, 3) := by decide +kernel
theorem dX6_init_96 : decode cX6_init 96 = .ok (.aload_n 0, 1) := by decide +kernel
theorem dX6_init_97 : decode cX6_init 97 = .ok (.bipush 60, 2) := by decide +kernel
theorem dX6_init_99 : decode cX6_init 99 = .ok (.newarray .int, 2) := by decide +kernel
theorem dX6_init_101 : decode cX6_init 101 = .ok (.putfield 46, 3) := by decide +kernel
theorem dX6_init_104 : decode cX6_init 104 = .ok (.aload_n 0, 1) := by decide +kernel
theorem dX6_init_105 : decode cX6_init 105 = .ok (.bipush 60, 2) := by decide +kernel
theorem dX6_init_107 : decode cX6_init 107 = .ok (.newarray .int, 2) := by decide +kernel
theorem dX6_init_109 : decode cX6_init 109 = .ok (.putfield 49, 3) := by decide +kernel
theorem dX6_init_112 : decode cX6_init 112 = .ok (.aload_n 0, 1) := by decide +kernel
theorem dX6_init_113 : decode cX6_init 113 = .ok (.bipush 60, 2) := by decide +kernel
theorem dX6_init_115 : decode cX6_init 115 = .ok (.newarray .boolean, 2) := by decide +kernel
theorem dX6_init_117 : decode cX6_init 117 = .ok (.putfield 52, 3) := by decide +kernel
theorem dX6_init_120 : decode cX6_init 120 = .ok (.aload_n 0, 1) := by decide +kernel
theorem dX6_init_121 : decode cX6_init 121 = .ok (.bipush 40, 2) := by decide +kernel
theorem dX6_init_123 : decode cX6_init 123 = .ok (.newarray .int, 2) := by decide +kernel
theorem dX6_init_125 : decode cX6_init 125 = .ok (.putfield 56, 3) := by decide +kernel
theorem dX6_init_128 : decode cX6_init 128 = .ok (.aload_n 0, 1) := by decide +kernel
theorem dX6_init_129 : decode cX6_init 129 = .ok (.bipush 6, 2) := by decide +kernel
theorem dX6_init_131 : decode cX6_init 131 = .ok (.newarray .int, 2) := by decide +kernel
theorem dX6_init_133 : decode cX6_init 133 = .ok (.putfield 59, 3) := by decide +kernel
theorem dX6_init_136 : decode cX6_init 136 = .ok (.aload_n 0, 1) := by decide +kernel
theorem dX6_init_137 : decode cX6_init 137 = .ok (.bipush 6, 2) := by decide +kernel
theorem dX6_init_139 : decode cX6_init 139 = .ok (.newarray .int, 2) := by decide +kernel
theorem dX6_init_141 : decode cX6_init 141 = .ok (.putfield 62, 3) := by decide +kernel
theorem dX6_init_144 : decode cX6_init 144 = .ok (.aload_n 0, 1) := by decide +kernel
theorem dX6_init_145 : decode cX6_init 145 = .ok (.bipush 6, 2) := by decide +kernel
theorem dX6_init_147 : decode cX6_init 147 = .ok (.newarray .boolean, 2) := by decide +kernel
theorem dX6_init_149 : decode cX6_init 149 = .ok (.putfield 65, 3) := by decide +kernel
theorem dX6_init_152 : decode cX6_init 152 = .ok (.aload_n 0, 1) := by decide +kernel
theorem dX6_init_153 : decode cX6_init 153 = .ok (.bipush 41, 2) := by decide +kernel
theorem dX6_init_155 : decode cX6_init 155 = .ok (.newarray .int, 2) := by decide +kernel
theorem dX6_init_157 : decode cX6_init 157 = .ok (.putfield 68, 3) := by decide +kernel
theorem dX6_init_160 : decode cX6_init 160 = .ok (.aload_n 0, 1) := by decide +kernel
theorem dX6_init_161 : decode cX6_init 161 = .ok (.bipush 40, 2) := by decide +kernel
theorem dX6_init_163 : decode cX6_init 163 = .ok (.newarray .int, 2) := by decide +kernel
theorem dX6_init_165 : decode cX6_init 165 = .ok (.putfield 71, 3) := by decide +kernel
theorem dX6_init_168 : decode cX6_init 168 = .ok (.aload_n 0, 1) := by decide +kernel
theorem dX6_init_169 : decode cX6_init 169 = .ok (.bipush 40, 2) := by decide +kernel
theorem dX6_init_171 : decode cX6_init 171 = .ok (.newarray .int, 2) := by decide +kernel
theorem dX6_init_173 : decode cX6_init 173 = .ok (.putfield 74, 3) := by decide +kernel
theorem dX6_init_176 : decode cX6_init 176 = .ok (.aload_n 0, 1) := by decide +kernel
theorem dX6_init_177 : decode cX6_init 177 = .ok (.bipush 60, 2) := by decide +kernel
theorem dX6_init_179 : decode cX6_init 179 = .ok (.newarray .boolean, 2) := by decide +kernel
theorem dX6_init_181 : decode cX6_init 181 = .ok (.putfield 77, 3) := by decide +kernel
theorem dX6_init_184 : decode cX6_init 184 = .ok (.aload_n 0, 1) := by decide +kernel
theorem dX6_init_185 : decode cX6_init 185 = .ok (.bipush 60, 2) := by decide +kernel
theorem dX6_init_187 : decode cX6_init 187 = .ok (.newarray .boolean, 2) := by decide +kernel
theorem dX6_init_189 : decode cX6_init 189 = .ok (.putfield 80, 3) := by decide +kernel
theorem dX6_init_192 : decode cX6_init 192 = .ok (.aload_n 0, 1) := by decide +kernel
theorem dX6_init_193 : decode cX6_init 193 = .ok (.bipush 9, 2) := by decide +kernel
theorem dX6_init_195 : decode cX6_init 195 = .ok (.newarray .int, 2) := by decide +kernel
theorem dX6_init_197 : decode cX6_init 197 = .ok (.putfield 83, 3) := by decide +kernel
theorem dX6_init_200 : decode cX6_init 200 = .ok (.aload_n 0, 1) := by decide +kernel
theorem dX6_init_201 : decode cX6_init 201 = .ok (.bipush 10, 2) := by decide +kernel
theorem dX6_init_203 : decode cX6_init 203 = .ok (.newarray .int, 2) := by decide +kernel
theorem dX6_init_205 : decode cX6_init 205 = .ok (.putfield 86, 3) := by decide +kernel
theorem dX6_init_208 : decode cX6_init 208 = .ok (.aload_n 0, 1) := by decide +kernel
theorem dX6_init_209 : decode cX6_init 209 = .ok (.iconst 0, 1) := by decide +kernel
theorem dX6_init_210 : decode cX6_init 210 = .ok (.putfield 89, 3) := by decide +kernel
theorem dX6_init_213 : decode cX6_init 213 = .ok (.return_, 1) := by decide +kernel
theorem dX6_in_0 : decode cX6_in 0 = .ok (.iload_n 0, 1) := by decide +kernel
theorem dX6_in_1 : decode cX6_in 1 = .ok (.iload_n 1, 1) := by decide +kernel
theorem dX6_in_2 : decode cX6_in 2 = .ok (.if_icmp .lt 12, 3) := by decide +kernel
theorem dX6_in_5 : decode cX6_in 5 = .ok (.iload_n 0, 1) := by decide +kernel
theorem dX6_in_6 : decode cX6_in 6 = .ok (.iload_n 2, 1) := by decide +kernel
theorem dX6_in_7 : decode cX6_in 7 = .ok (.if_icmp .gt 7, 3) := by decide +kernel
theorem dX6_in_10 : decode cX6_in 10 = .ok (.iconst 1, 1) := by decide +kernel
theorem dX6_in_11 : decode cX6_in 11 = .ok (.goto 4, 3) := by decide +kernel
theorem dX6_in_14 : decode cX6_in 14 = .ok (.iconst 0, 1) := by decide +kernel
theorem dX6_in_15 : decode cX6_in 15 = .ok (.ireturn, 1) := by decide +kernel
theorem dX6_feed_0 : decode cX6_feed 0 = .ok (.iconst 0, 1) := by decide +kernel
theorem dX6_feed_1 : decode cX6_feed 1 = .ok (.istore_n 2, 1) := by decide +kernel
theorem dX6_feed_2 : decode cX6_feed 2 = .ok (.iload_n 2, 1) := by decide +kernel
theorem dX6_feed_3 : decode cX6_feed 3 = .ok (.iconst 4, 1) := by decide +kernel
theorem dX6_feed_4 : decode cX6_feed 4 = .ok (.if_icmp .ge 22, 3) := by decide +kernel
theorem dX6_feed_7 : decode cX6_feed 7 = .ok (.iload_n 1, 1) := by decide +kernel
theorem dX6_feed_8 : decode cX6_feed 8 = .ok (.bipush 8, 2) := by decide +kernel
theorem dX6_feed_10 : decode cX6_feed 10 = .ok (.iload_n 2, 1) := by decide +kernel
theorem dX6_feed_11 : decode cX6_feed 11 = .ok (.imul, 1) := by decide +kernel
theorem dX6_feed_12 : decode cX6_feed 12 = .ok (.ishr, 1) := by decide +kernel
theorem dX6_feed_13 : decode cX6_feed 13 = .ok (.sipush 255, 3) := by decide +kernel
theorem dX6_feed_16 : decode cX6_feed 16 = .ok (.iand, 1) := by decide +kernel
theorem dX6_feed_17 : decode cX6_feed 17 = .ok (.ifCond .eq 9, 3) := by decide +kernel
theorem dX6_feed_20 : decode cX6_feed 20 = .ok (.iinc 2 1, 3) := by decide +kernel
theorem dX6_feed_23 : decode cX6_feed 23 = .ok (.goto (-21), 3) := by decide +kernel
theorem dX6_feed_26 : decode cX6_feed 26 = .ok (.aload_n 0, 1) := by decide +kernel
theorem dX6_feed_27 : decode cX6_feed 27 = .ok (.getfield 89, 3) := by decide +kernel
theorem dX6_feed_30 : decode cX6_feed 30 = .ok (.iload_n 2, 1) := by decide +kernel
theorem dX6_feed_31 : decode cX6_feed 31 = .ok (.iadd, 1) := by decide +kernel
theorem dX6_feed_32 : decode cX6_feed 32 = .ok (.bipush 40, 2) := by decide +kernel
theorem dX6_feed_34 : decode cX6_feed 34 = .ok (.if_icmp .le 6, 3) := by decide +kernel
theorem dX6_feed_37 : decode cX6_feed 37 = .ok (.bipush (-2), 2) := by decide +kernel
theorem dX6_feed_39 : decode cX6_feed 39 = .ok (.ireturn, 1) := by decide +kernel
theorem dX6_feed_40 : decode cX6_feed 40 = .ok (.iconst 0, 1) := by decide +kernel
theorem dX6_feed_41 : decode cX6_feed 41 = .ok (.istore_n 3, 1) := by decide +kernel
theorem dX6_feed_42 : decode cX6_feed 42 = .ok (.iload_n 3, 1) := by decide +kernel
theorem dX6_feed_43 : decode cX6_feed 43 = .ok (.iload_n 2, 1) := by decide +kernel
theorem dX6_feed_44 : decode cX6_feed 44 = .ok (.if_icmp .ge 38, 3) := by decide +kernel
theorem dX6_feed_47 : decode cX6_feed 47 = .ok (.aload_n 0, 1) := by decide +kernel
theorem dX6_feed_48 : decode cX6_feed 48 = .ok (.getfield 7, 3) := by decide +kernel
theorem dX6_feed_51 : decode cX6_feed 51 = .ok (.aload_n 0, 1) := by decide +kernel
theorem dX6_feed_52 : decode cX6_feed 52 = .ok (.getfield 89, 3) := by decide +kernel
theorem dX6_feed_55 : decode cX6_feed 55 = .ok (.iload_n 1, 1) := by decide +kernel
theorem dX6_feed_56 : decode cX6_feed 56 = .ok (.bipush 8, 2) := by decide +kernel
theorem dX6_feed_58 : decode cX6_feed 58 = .ok (.iload_n 3, 1) := by decide +kernel
theorem dX6_feed_59 : decode cX6_feed 59 = .ok (.imul, 1) := by decide +kernel
theorem dX6_feed_60 : decode cX6_feed 60 = .ok (.ishr, 1) := by decide +kernel
theorem dX6_feed_61 : decode cX6_feed 61 = .ok (.sipush 255, 3) := by decide +kernel
theorem dX6_feed_64 : decode cX6_feed 64 = .ok (.iand, 1) := by decide +kernel
theorem dX6_feed_65 : decode cX6_feed 65 = .ok (.iastore, 1) := by decide +kernel
theorem dX6_feed_66 : decode cX6_feed 66 = .ok (.aload_n 0, 1) := by decide +kernel
theorem dX6_feed_67 : decode cX6_feed 67 = .ok (.dup, 1) := by decide +kernel
theorem dX6_feed_68 : decode cX6_feed 68 = .ok (.getfield 89, 3) := by decide +kernel
theorem dX6_feed_71 : decode cX6_feed 71 = .ok (.iconst 1, 1) := by decide +kernel
theorem dX6_feed_72 : decode cX6_feed 72 = .ok (.iadd, 1) := by decide +kernel
theorem dX6_feed_73 : decode cX6_feed 73 = .ok (.putfield 89, 3) := by decide +kernel
theorem dX6_feed_76 : decode cX6_feed 76 = .ok (.iinc 3 1, 3) := by decide +kernel
theorem dX6_feed_79 : decode cX6_feed 79 = .ok (.goto (-37), 3) := by decide +kernel
theorem dX6_feed_82 : decode cX6_feed 82 = .ok (.aload_n 0, 1) := by decide +kernel
theorem dX6_feed_83 : decode cX6_feed 83 = .ok (.getfield 89, 3) := by decide +kernel
theorem dX6_feed_86 : decode cX6_feed 86 = .ok (.ireturn, 1) := by decide +kernel
theorem dX6_scrap_0 : decode cX6_scrap 0 = .ok (.aload_n 0, 1) := by decide +kernel
theorem dX6_scrap_1 : decode cX6_scrap 1 = .ok (.getfield 89, 3) := by decide +kernel
theorem dX6_scrap_4 : decode cX6_scrap 4 = .ok (.istore_n 1, 1) := by decide +kernel
theorem dX6_scrap_5 : decode cX6_scrap 5 = .ok (.aload_n 0, 1) := by decide +kernel
theorem dX6_scrap_6 : decode cX6_scrap 6 = .ok (.iconst 0, 1) := by decide +kernel
theorem dX6_scrap_7 : decode cX6_scrap 7 = .ok (.putfield 89, 3) := by decide +kernel
theorem dX6_scrap_10 : decode cX6_scrap 10 = .ok (.iload_n 1, 1) := by decide +kernel
theorem dX6_scrap_11 : decode cX6_scrap 11 = .ok (.ireturn, 1) := by decide +kernel
theorem dX6_isFigure_0 : decode cX6_isFigure 0 = .ok (.iload_n 0, 1) := by decide +kernel
theorem dX6_isFigure_1 : decode cX6_isFigure 1 = .ok (.bipush 48, 2) := by decide +kernel
theorem dX6_isFigure_3 : decode cX6_isFigure 3 = .ok (.if_icmp .lt 13, 3) := by decide +kernel
theorem dX6_isFigure_6 : decode cX6_isFigure 6 = .ok (.iload_n 0, 1) := by decide +kernel
theorem dX6_isFigure_7 : decode cX6_isFigure 7 = .ok (.bipush 57, 2) := by decide +kernel
theorem dX6_isFigure_9 : decode cX6_isFigure 9 = .ok (.if_icmp .gt 7, 3) := by decide +kernel
theorem dX6_isFigure_12 : decode cX6_isFigure 12 = .ok (.iconst 1, 1) := by decide +kernel
theorem dX6_isFigure_13 : decode cX6_isFigure 13 = .ok (.goto 4, 3) := by decide +kernel
theorem dX6_isFigure_16 : decode cX6_isFigure 16 = .ok (.iconst 0, 1) := by decide +kernel
theorem dX6_isFigure_17 : decode cX6_isFigure 17 = .ok (.ireturn, 1) := by decide +kernel
theorem dX6_takes_0 : decode cX6_takes 0 = .ok (.iload_n 0, 1) := by decide +kernel
theorem dX6_takes_1 : decode cX6_takes 1 = .ok (.bipush 108, 2) := by decide +kernel
theorem dX6_takes_3 : decode cX6_takes 3 = .ok (.if_icmp .eq 34, 3) := by decide +kernel
theorem dX6_takes_6 : decode cX6_takes 6 = .ok (.iload_n 0, 1) := by decide +kernel
theorem dX6_takes_7 : decode cX6_takes 7 = .ok (.bipush 98, 2) := by decide +kernel
theorem dX6_takes_9 : decode cX6_takes 9 = .ok (.if_icmp .eq 28, 3) := by decide +kernel
theorem dX6_takes_12 : decode cX6_takes 12 = .ok (.iload_n 0, 1) := by decide +kernel
theorem dX6_takes_13 : decode cX6_takes 13 = .ok (.bipush 100, 2) := by decide +kernel
theorem dX6_takes_15 : decode cX6_takes 15 = .ok (.if_icmp .eq 22, 3) := by decide +kernel
theorem dX6_takes_18 : decode cX6_takes 18 = .ok (.iload_n 0, 1) := by decide +kernel
theorem dX6_takes_19 : decode cX6_takes 19 = .ok (.bipush 114, 2) := by decide +kernel
theorem dX6_takes_21 : decode cX6_takes 21 = .ok (.if_icmp .eq 16, 3) := by decide +kernel
theorem dX6_takes_24 : decode cX6_takes 24 = .ok (.iload_n 0, 1) := by decide +kernel
theorem dX6_takes_25 : decode cX6_takes 25 = .ok (.bipush 32, 2) := by decide +kernel
theorem dX6_takes_27 : decode cX6_takes 27 = .ok (.if_icmp .eq 10, 3) := by decide +kernel
theorem dX6_takes_30 : decode cX6_takes 30 = .ok (.iload_n 0, 1) := by decide +kernel
theorem dX6_takes_31 : decode cX6_takes 31 = .ok (.invokestatic 93, 3) := by decide +kernel
theorem dX6_takes_34 : decode cX6_takes 34 = .ok (.ifCond .eq 5, 3) := by decide +kernel
theorem dX6_takes_37 : decode cX6_takes 37 = .ok (.iconst 0, 1) := by decide +kernel
theorem dX6_takes_38 : decode cX6_takes 38 = .ok (.ireturn, 1) := by decide +kernel
theorem dX6_takes_39 : decode cX6_takes 39 = .ok (.iload_n 0, 1) := by decide +kernel
theorem dX6_takes_40 : decode cX6_takes 40 = .ok (.bipush 33, 2) := by decide +kernel
theorem dX6_takes_42 : decode cX6_takes 42 = .ok (.if_icmp .ne 7, 3) := by decide +kernel
theorem dX6_takes_45 : decode cX6_takes 45 = .ok (.iconst 1, 1) := by decide +kernel
theorem dX6_takes_46 : decode cX6_takes 46 = .ok (.goto 32, 3) := by decide +kernel
theorem dX6_takes_49 : decode cX6_takes 49 = .ok (.iload_n 0, 1) := by decide +kernel
theorem dX6_takes_50 : decode cX6_takes 50 = .ok (.bipush 43, 2) := by decide +kernel
theorem dX6_takes_52 : decode cX6_takes 52 = .ok (.if_icmp .eq 21, 3) := by decide +kernel
theorem dX6_takes_55 : decode cX6_takes 55 = .ok (.iload_n 0, 1) := by decide +kernel
theorem dX6_takes_56 : decode cX6_takes 56 = .ok (.bipush 45, 2) := by decide +kernel
theorem dX6_takes_58 : decode cX6_takes 58 = .ok (.if_icmp .eq 15, 3) := by decide +kernel
theorem dX6_takes_61 : decode cX6_takes 61 = .ok (.iload_n 0, 1) := by decide +kernel
theorem dX6_takes_62 : decode cX6_takes 62 = .ok (.bipush 42, 2) := by decide +kernel
theorem dX6_takes_64 : decode cX6_takes 64 = .ok (.if_icmp .eq 9, 3) := by decide +kernel
theorem dX6_takes_67 : decode cX6_takes 67 = .ok (.iload_n 0, 1) := by decide +kernel
theorem dX6_takes_68 : decode cX6_takes 68 = .ok (.bipush 47, 2) := by decide +kernel
theorem dX6_takes_70 : decode cX6_takes 70 = .ok (.if_icmp .ne 7, 3) := by decide +kernel
theorem dX6_takes_73 : decode cX6_takes 73 = .ok (.iconst 2, 1) := by decide +kernel
theorem dX6_takes_74 : decode cX6_takes 74 = .ok (.goto 4, 3) := by decide +kernel
theorem dX6_takes_77 : decode cX6_takes 77 = .ok (.iconst (-1), 1) := by decide +kernel
theorem dX6_takes_78 : decode cX6_takes 78 = .ok (.ireturn, 1) := by decide +kernel
theorem dX6_isGood_0 : decode cX6_isGood 0 = .ok (.iconst 0, 1) := by decide +kernel
theorem dX6_isGood_1 : decode cX6_isGood 1 = .ok (.istore_n 1, 1) := by decide +kernel
theorem dX6_isGood_2 : decode cX6_isGood 2 = .ok (.iconst 0, 1) := by decide +kernel
theorem dX6_isGood_3 : decode cX6_isGood 3 = .ok (.istore_n 2, 1) := by decide +kernel
theorem dX6_isGood_4 : decode cX6_isGood 4 = .ok (.iconst 0, 1) := by decide +kernel
theorem dX6_isGood_5 : decode cX6_isGood 5 = .ok (.istore_n 3, 1) := by decide +kernel
theorem dX6_isGood_6 : decode cX6_isGood 6 = .ok (.iload_n 3, 1) := by decide +kernel
theorem dX6_isGood_7 : decode cX6_isGood 7 = .ok (.aload_n 0, 1) := by decide +kernel
theorem dX6_isGood_8 : decode cX6_isGood 8 = .ok (.getfield 89, 3) := by decide +kernel
theorem dX6_isGood_11 : decode cX6_isGood 11 = .ok (.if_icmp .ge 92, 3) := by decide +kernel
theorem dX6_isGood_14 : decode cX6_isGood 14 = .ok (.aload_n 0, 1) := by decide +kernel
theorem dX6_isGood_15 : decode cX6_isGood 15 = .ok (.getfield 7, 3) := by decide +kernel
theorem dX6_isGood_18 : decode cX6_isGood 18 = .ok (.iload_n 3, 1) := by decide +kernel
theorem dX6_isGood_19 : decode cX6_isGood 19 = .ok (.iaload, 1) := by decide +kernel
theorem dX6_isGood_20 : decode cX6_isGood 20 = .ok (.istore 4, 2) := by decide +kernel
theorem dX6_isGood_22 : decode cX6_isGood 22 = .ok (.iload 4, 2) := by decide +kernel
theorem dX6_isGood_24 : decode cX6_isGood 24 = .ok (.invokestatic 97, 3) := by decide +kernel
theorem dX6_isGood_27 : decode cX6_isGood 27 = .ok (.istore 5, 2) := by decide +kernel
theorem dX6_isGood_29 : decode cX6_isGood 29 = .ok (.iload 5, 2) := by decide +kernel
theorem dX6_isGood_31 : decode cX6_isGood 31 = .ok (.ifCond .lt 9, 3) := by decide +kernel
theorem dX6_isGood_34 : decode cX6_isGood 34 = .ok (.iload 5, 2) := by decide +kernel
theorem dX6_isGood_36 : decode cX6_isGood 36 = .ok (.iload_n 1, 1) := by decide +kernel
theorem dX6_isGood_37 : decode cX6_isGood 37 = .ok (.if_icmp .le 5, 3) := by decide +kernel
theorem dX6_isGood_40 : decode cX6_isGood 40 = .ok (.iconst 0, 1) := by decide +kernel
theorem dX6_isGood_41 : decode cX6_isGood 41 = .ok (.ireturn, 1) := by decide +kernel
theorem dX6_isGood_42 : decode cX6_isGood 42 = .ok (.iload 4, 2) := by decide +kernel
theorem dX6_isGood_44 : decode cX6_isGood 44 = .ok (.invokestatic 93, 3) := by decide +kernel
theorem dX6_isGood_47 : decode cX6_isGood 47 = .ok (.ifCond .eq 9, 3) := by decide +kernel
theorem dX6_isGood_50 : decode cX6_isGood 50 = .ok (.iload_n 2, 1) := by decide +kernel
theorem dX6_isGood_51 : decode cX6_isGood 51 = .ok (.iconst 1, 1) := by decide +kernel
theorem dX6_isGood_52 : decode cX6_isGood 52 = .ok (.iadd, 1) := by decide +kernel
theorem dX6_isGood_53 : decode cX6_isGood 53 = .ok (.goto 4, 3) := by decide +kernel
theorem dX6_isGood_56 : decode cX6_isGood 56 = .ok (.iconst 0, 1) := by decide +kernel
theorem dX6_isGood_57 : decode cX6_isGood 57 = .ok (.istore_n 2, 1) := by decide +kernel
theorem dX6_isGood_58 : decode cX6_isGood 58 = .ok (.iload_n 2, 1) := by decide +kernel
theorem dX6_isGood_59 : decode cX6_isGood 59 = .ok (.iconst 4, 1) := by decide +kernel
theorem dX6_isGood_60 : decode cX6_isGood 60 = .ok (.if_icmp .le 5, 3) := by decide +kernel
theorem dX6_isGood_63 : decode cX6_isGood 63 = .ok (.iconst 0, 1) := by decide +kernel
theorem dX6_isGood_64 : decode cX6_isGood 64 = .ok (.ireturn, 1) := by decide +kernel
theorem dX6_isGood_65 : decode cX6_isGood 65 = .ok (.iload 5, 2) := by decide +kernel
theorem dX6_isGood_67 : decode cX6_isGood 67 = .ok (.iconst 2, 1) := by decide +kernel
theorem dX6_isGood_68 : decode cX6_isGood 68 = .ok (.if_icmp .ne 9, 3) := by decide +kernel
theorem dX6_isGood_71 : decode cX6_isGood 71 = .ok (.iinc 1 (-1), 3) := by decide +kernel
theorem dX6_isGood_74 : decode cX6_isGood 74 = .ok (.goto 23, 3) := by decide +kernel
theorem dX6_isGood_77 : decode cX6_isGood 77 = .ok (.iload 5, 2) := by decide +kernel
theorem dX6_isGood_79 : decode cX6_isGood 79 = .ok (.ifCond .ne 18, 3) := by decide +kernel
theorem dX6_isGood_82 : decode cX6_isGood 82 = .ok (.iload 4, 2) := by decide +kernel
theorem dX6_isGood_84 : decode cX6_isGood 84 = .ok (.bipush 32, 2) := by decide +kernel
theorem dX6_isGood_86 : decode cX6_isGood 86 = .ok (.if_icmp .eq 11, 3) := by decide +kernel
theorem dX6_isGood_89 : decode cX6_isGood 89 = .ok (.iload_n 2, 1) := by decide +kernel
theorem dX6_isGood_90 : decode cX6_isGood 90 = .ok (.iconst 2, 1) := by decide +kernel
theorem dX6_isGood_91 : decode cX6_isGood 91 = .ok (.if_icmp .ge 6, 3) := by decide +kernel
theorem dX6_isGood_94 : decode cX6_isGood 94 = .ok (.iinc 1 1, 3) := by decide +kernel
theorem dX6_isGood_97 : decode cX6_isGood 97 = .ok (.iinc 3 1, 3) := by decide +kernel
theorem dX6_isGood_100 : decode cX6_isGood 100 = .ok (.goto (-94), 3) := by decide +kernel
theorem dX6_isGood_103 : decode cX6_isGood 103 = .ok (.iload_n 1, 1) := by decide +kernel
theorem dX6_isGood_104 : decode cX6_isGood 104 = .ok (.iconst 1, 1) := by decide +kernel
theorem dX6_isGood_105 : decode cX6_isGood 105 = .ok (.if_icmp .ne 7, 3) := by decide +kernel
theorem dX6_isGood_108 : decode cX6_isGood 108 = .ok (.iconst 1, 1) := by decide +kernel
theorem dX6_isGood_109 : decode cX6_isGood 109 = .ok (.goto 4, 3) := by decide +kernel
theorem dX6_isGood_112 : decode cX6_isGood 112 = .ok (.iconst 0, 1) := by decide +kernel
theorem dX6_isGood_113 : decode cX6_isGood 113 = .ok (.ireturn, 1) := by decide +kernel
theorem dX6_act_0 : decode cX6_act 0 = .ok (.iload_n 1, 1) := by decide +kernel
theorem dX6_act_1 : decode cX6_act 1 = .ok (.iconst 0, 1) := by decide +kernel
theorem dX6_act_2 : decode cX6_act 2 = .ok (.sipush 999, 3) := by decide +kernel
theorem dX6_act_5 : decode cX6_act 5 = .ok (.invokestatic 101, 3) := by decide +kernel
theorem dX6_act_8 : decode cX6_act 8 = .ok (.ifCond .ne 5, 3) := by decide +kernel
theorem dX6_act_11 : decode cX6_act 11 = .ok (.iconst (-1), 1) := by decide +kernel
theorem dX6_act_12 : decode cX6_act 12 = .ok (.ireturn, 1) := by decide +kernel
theorem dX6_act_13 : decode cX6_act 13 = .ok (.aload_n 0, 1) := by decide +kernel
theorem dX6_act_14 : decode cX6_act 14 = .ok (.getfield 105, 3) := by decide +kernel
theorem dX6_act_17 : decode cX6_act 17 = .ok (.iconst 5, 1) := by decide +kernel
theorem dX6_act_18 : decode cX6_act 18 = .ok (.if_icmp .ne 6, 3) := by decide +kernel
theorem dX6_act_21 : decode cX6_act 21 = .ok (.bipush (-2), 2) := by decide +kernel
theorem dX6_act_23 : decode cX6_act 23 = .ok (.ireturn, 1) := by decide +kernel
theorem dX6_act_24 : decode cX6_act 24 = .ok (.aload_n 0, 1) := by decide +kernel
theorem dX6_act_25 : decode cX6_act 25 = .ok (.invokevirtual 108, 3) := by decide +kernel
theorem dX6_act_28 : decode cX6_act 28 = .ok (.ifCond .ne 6, 3) := by decide +kernel
theorem dX6_act_31 : decode cX6_act 31 = .ok (.bipush (-5), 2) := by decide +kernel
theorem dX6_act_33 : decode cX6_act 33 = .ok (.ireturn, 1) := by decide +kernel
theorem dX6_act_34 : decode cX6_act 34 = .ok (.iconst 0, 1) := by decide +kernel
theorem dX6_act_35 : decode cX6_act 35 = .ok (.istore_n 2, 1) := by decide +kernel
theorem dX6_act_36 : decode cX6_act 36 = .ok (.iload_n 2, 1) := by decide +kernel
theorem dX6_act_37 : decode cX6_act 37 = .ok (.aload_n 0, 1) := by decide +kernel
theorem dX6_act_38 : decode cX6_act 38 = .ok (.getfield 89, 3) := by decide +kernel
theorem dX6_act_41 : decode cX6_act 41 = .ok (.if_icmp .ge 29, 3) := by decide +kernel
theorem dX6_act_44 : decode cX6_act 44 = .ok (.aload_n 0, 1) := by decide +kernel
theorem dX6_act_45 : decode cX6_act 45 = .ok (.getfield 19, 3) := by decide +kernel
theorem dX6_act_48 : decode cX6_act 48 = .ok (.bipush 40, 2) := by decide +kernel
theorem dX6_act_50 : decode cX6_act 50 = .ok (.aload_n 0, 1) := by decide +kernel
theorem dX6_act_51 : decode cX6_act 51 = .ok (.getfield 105, 3) := by decide +kernel
theorem dX6_act_54 : decode cX6_act 54 = .ok (.imul, 1) := by decide +kernel
theorem dX6_act_55 : decode cX6_act 55 = .ok (.iload_n 2, 1) := by decide +kernel
theorem dX6_act_56 : decode cX6_act 56 = .ok (.iadd, 1) := by decide +kernel
theorem dX6_act_57 : decode cX6_act 57 = .ok (.aload_n 0, 1) := by decide +kernel
theorem dX6_act_58 : decode cX6_act 58 = .ok (.getfield 7, 3) := by decide +kernel
theorem dX6_act_61 : decode cX6_act 61 = .ok (.iload_n 2, 1) := by decide +kernel
theorem dX6_act_62 : decode cX6_act 62 = .ok (.iaload, 1) := by decide +kernel
theorem dX6_act_63 : decode cX6_act 63 = .ok (.iastore, 1) := by decide +kernel
theorem dX6_act_64 : decode cX6_act 64 = .ok (.iinc 2 1, 3) := by decide +kernel
theorem dX6_act_67 : decode cX6_act 67 = .ok (.goto (-31), 3) := by decide +kernel
theorem dX6_act_70 : decode cX6_act 70 = .ok (.aload_n 0, 1) := by decide +kernel
theorem dX6_act_71 : decode cX6_act 71 = .ok (.getfield 16, 3) := by decide +kernel
theorem dX6_act_74 : decode cX6_act 74 = .ok (.aload_n 0, 1) := by decide +kernel
theorem dX6_act_75 : decode cX6_act 75 = .ok (.getfield 105, 3) := by decide +kernel
theorem dX6_act_78 : decode cX6_act 78 = .ok (.aload_n 0, 1) := by decide +kernel
theorem dX6_act_79 : decode cX6_act 79 = .ok (.getfield 89, 3) := by decide +kernel
theorem dX6_act_82 : decode cX6_act 82 = .ok (.iastore, 1) := by decide +kernel
theorem dX6_act_83 : decode cX6_act 83 = .ok (.aload_n 0, 1) := by decide +kernel
theorem dX6_act_84 : decode cX6_act 84 = .ok (.getfield 13, 3) := by decide +kernel
theorem dX6_act_87 : decode cX6_act 87 = .ok (.aload_n 0, 1) := by decide +kernel
theorem dX6_act_88 : decode cX6_act 88 = .ok (.getfield 105, 3) := by decide +kernel
theorem dX6_act_91 : decode cX6_act 91 = .ok (.iload_n 1, 1) := by decide +kernel
theorem dX6_act_92 : decode cX6_act 92 = .ok (.iastore, 1) := by decide +kernel
theorem dX6_act_93 : decode cX6_act 93 = .ok (.aload_n 0, 1) := by decide +kernel
theorem dX6_act_94 : decode cX6_act 94 = .ok (.iconst 0, 1) := by decide +kernel
theorem dX6_act_95 : decode cX6_act 95 = .ok (.putfield 89, 3) := by decide +kernel
theorem dX6_act_98 : decode cX6_act 98 = .ok (.aload_n 0, 1) := by decide +kernel
theorem dX6_act_99 : decode cX6_act 99 = .ok (.dup, 1) := by decide +kernel
theorem dX6_act_100 : decode cX6_act 100 = .ok (.getfield 105, 3) := by decide +kernel
theorem dX6_act_103 : decode cX6_act 103 = .ok (.iconst 1, 1) := by decide +kernel
theorem dX6_act_104 : decode cX6_act 104 = .ok (.iadd, 1) := by decide +kernel
theorem dX6_act_105 : decode cX6_act 105 = .ok (.putfield 105, 3) := by decide +kernel
theorem dX6_act_108 : decode cX6_act 108 = .ok (.aload_n 0, 1) := by decide +kernel
theorem dX6_act_109 : decode cX6_act 109 = .ok (.getfield 105, 3) := by decide +kernel
theorem dX6_act_112 : decode cX6_act 112 = .ok (.iconst 1, 1) := by decide +kernel
theorem dX6_act_113 : decode cX6_act 113 = .ok (.isub, 1) := by decide +kernel
theorem dX6_act_114 : decode cX6_act 114 = .ok (.ireturn, 1) := by decide +kernel
theorem dX6_isAct_0 : decode cX6_isAct 0 = .ok (.iload_n 1, 1) := by decide +kernel
theorem dX6_isAct_1 : decode cX6_isAct 1 = .ok (.iconst 0, 1) := by decide +kernel
theorem dX6_isAct_2 : decode cX6_isAct 2 = .ok (.aload_n 0, 1) := by decide +kernel
theorem dX6_isAct_3 : decode cX6_isAct 3 = .ok (.getfield 105, 3) := by decide +kernel
theorem dX6_isAct_6 : decode cX6_isAct 6 = .ok (.iconst 1, 1) := by decide +kernel
theorem dX6_isAct_7 : decode cX6_isAct 7 = .ok (.isub, 1) := by decide +kernel
theorem dX6_isAct_8 : decode cX6_isAct 8 = .ok (.invokestatic 101, 3) := by decide +kernel
theorem dX6_isAct_11 : decode cX6_isAct 11 = .ok (.ireturn, 1) := by decide +kernel
theorem dX6_forceOn_0 : decode cX6_forceOn 0 = .ok (.bipush (-4), 2) := by decide +kernel
theorem dX6_forceOn_2 : decode cX6_forceOn 2 = .ok (.istore_n 2, 1) := by decide +kernel
theorem dX6_forceOn_3 : decode cX6_forceOn 3 = .ok (.iconst 0, 1) := by decide +kernel
theorem dX6_forceOn_4 : decode cX6_forceOn 4 = .ok (.istore_n 3, 1) := by decide +kernel
theorem dX6_forceOn_5 : decode cX6_forceOn 5 = .ok (.iload_n 3, 1) := by decide +kernel
theorem dX6_forceOn_6 : decode cX6_forceOn 6 = .ok (.aload_n 0, 1) := by decide +kernel
theorem dX6_forceOn_7 : decode cX6_forceOn 7 = .ok (.getfield 105, 3) := by decide +kernel
theorem dX6_forceOn_10 : decode cX6_forceOn 10 = .ok (.if_icmp .ge 44, 3) := by decide +kernel
theorem dX6_forceOn_13 : decode cX6_forceOn 13 = .ok (.aload_n 0, 1) := by decide +kernel
theorem dX6_forceOn_14 : decode cX6_forceOn 14 = .ok (.getfield 13, 3) := by decide +kernel
theorem dX6_forceOn_17 : decode cX6_forceOn 17 = .ok (.iload_n 3, 1) := by decide +kernel
theorem dX6_forceOn_18 : decode cX6_forceOn 18 = .ok (.iaload, 1) := by decide +kernel
theorem dX6_forceOn_19 : decode cX6_forceOn 19 = .ok (.iload_n 1, 1) := by decide +kernel
theorem dX6_forceOn_20 : decode cX6_forceOn 20 = .ok (.if_icmp .gt 26, 3) := by decide +kernel
theorem dX6_forceOn_23 : decode cX6_forceOn 23 = .ok (.iload_n 2, 1) := by decide +kernel
theorem dX6_forceOn_24 : decode cX6_forceOn 24 = .ok (.ifCond .lt 18, 3) := by decide +kernel
theorem dX6_forceOn_27 : decode cX6_forceOn 27 = .ok (.aload_n 0, 1) := by decide +kernel
theorem dX6_forceOn_28 : decode cX6_forceOn 28 = .ok (.getfield 13, 3) := by decide +kernel
theorem dX6_forceOn_31 : decode cX6_forceOn 31 = .ok (.iload_n 3, 1) := by decide +kernel
theorem dX6_forceOn_32 : decode cX6_forceOn 32 = .ok (.iaload, 1) := by decide +kernel
theorem dX6_forceOn_33 : decode cX6_forceOn 33 = .ok (.aload_n 0, 1) := by decide +kernel
theorem dX6_forceOn_34 : decode cX6_forceOn 34 = .ok (.getfield 13, 3) := by decide +kernel
theorem dX6_forceOn_37 : decode cX6_forceOn 37 = .ok (.iload_n 2, 1) := by decide +kernel
theorem dX6_forceOn_38 : decode cX6_forceOn 38 = .ok (.iaload, 1) := by decide +kernel
theorem dX6_forceOn_39 : decode cX6_forceOn 39 = .ok (.if_icmp .lt 7, 3) := by decide +kernel
theorem dX6_forceOn_42 : decode cX6_forceOn 42 = .ok (.iload_n 3, 1) := by decide +kernel
theorem dX6_forceOn_43 : decode cX6_forceOn 43 = .ok (.goto 4, 3) := by decide +kernel
theorem dX6_forceOn_46 : decode cX6_forceOn 46 = .ok (.iload_n 2, 1) := by decide +kernel
theorem dX6_forceOn_47 : decode cX6_forceOn 47 = .ok (.istore_n 2, 1) := by decide +kernel
theorem dX6_forceOn_48 : decode cX6_forceOn 48 = .ok (.iinc 3 1, 3) := by decide +kernel
theorem dX6_forceOn_51 : decode cX6_forceOn 51 = .ok (.goto (-46), 3) := by decide +kernel
theorem dX6_forceOn_54 : decode cX6_forceOn 54 = .ok (.iload_n 2, 1) := by decide +kernel
theorem dX6_forceOn_55 : decode cX6_forceOn 55 = .ok (.ireturn, 1) := by decide +kernel
theorem dX6_inForce_0 : decode cX6_inForce 0 = .ok (.iload_n 1, 1) := by decide +kernel
theorem dX6_inForce_1 : decode cX6_inForce 1 = .ok (.iconst 0, 1) := by decide +kernel
theorem dX6_inForce_2 : decode cX6_inForce 2 = .ok (.sipush 999, 3) := by decide +kernel
theorem dX6_inForce_5 : decode cX6_inForce 5 = .ok (.invokestatic 101, 3) := by decide +kernel
theorem dX6_inForce_8 : decode cX6_inForce 8 = .ok (.ifCond .eq 11, 3) := by decide +kernel
theorem dX6_inForce_11 : decode cX6_inForce 11 = .ok (.aload_n 0, 1) := by decide +kernel
theorem dX6_inForce_12 : decode cX6_inForce 12 = .ok (.iload_n 1, 1) := by decide +kernel
theorem dX6_inForce_13 : decode cX6_inForce 13 = .ok (.invokevirtual 112, 3) := by decide +kernel
theorem dX6_inForce_16 : decode cX6_inForce 16 = .ok (.goto 4, 3) := by decide +kernel
theorem dX6_inForce_19 : decode cX6_inForce 19 = .ok (.iconst (-1), 1) := by decide +kernel
theorem dX6_inForce_20 : decode cX6_inForce 20 = .ok (.ireturn, 1) := by decide +kernel
theorem dX6_push_0 : decode cX6_push 0 = .ok (.aload_n 0, 1) := by decide +kernel
theorem dX6_push_1 : decode cX6_push 1 = .ok (.getfield 68, 3) := by decide +kernel
theorem dX6_push_4 : decode cX6_push 4 = .ok (.aload_n 0, 1) := by decide +kernel
theorem dX6_push_5 : decode cX6_push 5 = .ok (.getfield 115, 3) := by decide +kernel
theorem dX6_push_8 : decode cX6_push 8 = .ok (.lload_n 1, 1) := by decide +kernel
theorem dX6_push_9 : decode cX6_push 9 = .ok (.ldc2_w 118, 3) := by decide +kernel
theorem dX6_push_12 : decode cX6_push 12 = .ok (.lcmp, 1) := by decide +kernel
theorem dX6_push_13 : decode cX6_push 13 = .ok (.ifCond .le 8, 3) := by decide +kernel
theorem dX6_push_16 : decode cX6_push 16 = .ok (.ldc 120, 2) := by decide +kernel
theorem dX6_push_18 : decode cX6_push 18 = .ok (.goto 18, 3) := by decide +kernel
theorem dX6_push_21 : decode cX6_push 21 = .ok (.lload_n 1, 1) := by decide +kernel
theorem dX6_push_22 : decode cX6_push 22 = .ok (.ldc2_w 121, 3) := by decide +kernel
theorem dX6_push_25 : decode cX6_push 25 = .ok (.lcmp, 1) := by decide +kernel
theorem dX6_push_26 : decode cX6_push 26 = .ok (.ifCond .ge 8, 3) := by decide +kernel
theorem dX6_push_29 : decode cX6_push 29 = .ok (.ldc 123, 2) := by decide +kernel
theorem dX6_push_31 : decode cX6_push 31 = .ok (.goto 5, 3) := by decide +kernel
theorem dX6_push_34 : decode cX6_push 34 = .ok (.lload_n 1, 1) := by decide +kernel
theorem dX6_push_35 : decode cX6_push 35 = .ok (.l2i, 1) := by decide +kernel
theorem dX6_push_36 : decode cX6_push 36 = .ok (.iastore, 1) := by decide +kernel
theorem dX6_push_37 : decode cX6_push 37 = .ok (.aload_n 0, 1) := by decide +kernel
theorem dX6_push_38 : decode cX6_push 38 = .ok (.dup, 1) := by decide +kernel
theorem dX6_push_39 : decode cX6_push 39 = .ok (.getfield 115, 3) := by decide +kernel
theorem dX6_push_42 : decode cX6_push 42 = .ok (.iconst 1, 1) := by decide +kernel
theorem dX6_push_43 : decode cX6_push 43 = .ok (.iadd, 1) := by decide +kernel
theorem dX6_push_44 : decode cX6_push 44 = .ok (.putfield 115, 3) := by decide +kernel
theorem dX6_push_47 : decode cX6_push 47 = .ok (.return_, 1) := by decide +kernel
theorem dX6_combine_0 : decode cX6_combine 0 = .ok (.aload_n 0, 1) := by decide +kernel
theorem dX6_combine_1 : decode cX6_combine 1 = .ok (.getfield 68, 3) := by decide +kernel
theorem dX6_combine_4 : decode cX6_combine 4 = .ok (.aload_n 0, 1) := by decide +kernel
theorem dX6_combine_5 : decode cX6_combine 5 = .ok (.getfield 115, 3) := by decide +kernel
theorem dX6_combine_8 : decode cX6_combine 8 = .ok (.iconst 2, 1) := by decide +kernel
theorem dX6_combine_9 : decode cX6_combine 9 = .ok (.isub, 1) := by decide +kernel
theorem dX6_combine_10 : decode cX6_combine 10 = .ok (.iaload, 1) := by decide +kernel
theorem dX6_combine_11 : decode cX6_combine 11 = .ok (.i2l, 1) := by decide +kernel
theorem dX6_combine_12 : decode cX6_combine 12 = .ok (.lstore_n 2, 1) := by decide +kernel
theorem dX6_combine_13 : decode cX6_combine 13 = .ok (.aload_n 0, 1) := by decide +kernel
theorem dX6_combine_14 : decode cX6_combine 14 = .ok (.getfield 68, 3) := by decide +kernel
theorem dX6_combine_17 : decode cX6_combine 17 = .ok (.aload_n 0, 1) := by decide +kernel
theorem dX6_combine_18 : decode cX6_combine 18 = .ok (.getfield 115, 3) := by decide +kernel
theorem dX6_combine_21 : decode cX6_combine 21 = .ok (.iconst 1, 1) := by decide +kernel
theorem dX6_combine_22 : decode cX6_combine 22 = .ok (.isub, 1) := by decide +kernel
theorem dX6_combine_23 : decode cX6_combine 23 = .ok (.iaload, 1) := by decide +kernel
theorem dX6_combine_24 : decode cX6_combine 24 = .ok (.i2l, 1) := by decide +kernel
theorem dX6_combine_25 : decode cX6_combine 25 = .ok (.lstore 4, 2) := by decide +kernel
theorem dX6_combine_27 : decode cX6_combine 27 = .ok (.aload_n 0, 1) := by decide +kernel
theorem dX6_combine_28 : decode cX6_combine 28 = .ok (.dup, 1) := by decide +kernel
theorem dX6_combine_29 : decode cX6_combine 29 = .ok (.getfield 115, 3) := by decide +kernel
theorem dX6_combine_32 : decode cX6_combine 32 = .ok (.iconst 2, 1) := by decide +kernel
theorem dX6_combine_33 : decode cX6_combine 33 = .ok (.isub, 1) := by decide +kernel
theorem dX6_combine_34 : decode cX6_combine 34 = .ok (.putfield 115, 3) := by decide +kernel
theorem dX6_combine_37 : decode cX6_combine 37 = .ok (.iload_n 1, 1) := by decide +kernel
theorem dX6_combine_38 : decode cX6_combine 38 = .ok (.bipush 47, 2) := by decide +kernel
theorem dX6_combine_40 : decode cX6_combine 40 = .ok (.if_icmp .ne 25, 3) := by decide +kernel
theorem dX6_combine_43 : decode cX6_combine 43 = .ok (.aload_n 0, 1) := by decide +kernel
theorem dX6_combine_44 : decode cX6_combine 44 = .ok (.lload 4, 2) := by decide +kernel
theorem dX6_combine_46 : decode cX6_combine 46 = .ok (.lconst 0, 1) := by decide +kernel
theorem dX6_combine_47 : decode cX6_combine 47 = .ok (.lcmp, 1) := by decide +kernel
theorem dX6_combine_48 : decode cX6_combine 48 = .ok (.ifCond .ne 7, 3) := by decide +kernel
theorem dX6_combine_51 : decode cX6_combine 51 = .ok (.lconst 0, 1) := by decide +kernel
theorem dX6_combine_52 : decode cX6_combine 52 = .ok (.goto 7, 3) := by decide +kernel
theorem dX6_combine_55 : decode cX6_combine 55 = .ok (.lload_n 2, 1) := by decide +kernel
theorem dX6_combine_56 : decode cX6_combine 56 = .ok (.lload 4, 2) := by decide +kernel
theorem dX6_combine_58 : decode cX6_combine 58 = .ok (.ldiv, 1) := by decide +kernel
theorem dX6_combine_59 : decode cX6_combine 59 = .ok (.invokevirtual 124, 3) := by decide +kernel
theorem dX6_combine_62 : decode cX6_combine 62 = .ok (.goto 37, 3) := by decide +kernel
theorem dX6_combine_65 : decode cX6_combine 65 = .ok (.aload_n 0, 1) := by decide +kernel
theorem dX6_combine_66 : decode cX6_combine 66 = .ok (.iload_n 1, 1) := by decide +kernel
theorem dX6_combine_67 : decode cX6_combine 67 = .ok (.bipush 43, 2) := by decide +kernel
theorem dX6_combine_69 : decode cX6_combine 69 = .ok (.if_icmp .ne 10, 3) := by decide +kernel
theorem dX6_combine_72 : decode cX6_combine 72 = .ok (.lload_n 2, 1) := by decide +kernel
theorem dX6_combine_73 : decode cX6_combine 73 = .ok (.lload 4, 2) := by decide +kernel
theorem dX6_combine_75 : decode cX6_combine 75 = .ok (.ladd, 1) := by decide +kernel
theorem dX6_combine_76 : decode cX6_combine 76 = .ok (.goto 20, 3) := by decide +kernel
theorem dX6_combine_79 : decode cX6_combine 79 = .ok (.iload_n 1, 1) := by decide +kernel
theorem dX6_combine_80 : decode cX6_combine 80 = .ok (.bipush 45, 2) := by decide +kernel
theorem dX6_combine_82 : decode cX6_combine 82 = .ok (.if_icmp .ne 10, 3) := by decide +kernel
theorem dX6_combine_85 : decode cX6_combine 85 = .ok (.lload_n 2, 1) := by decide +kernel
theorem dX6_combine_86 : decode cX6_combine 86 = .ok (.lload 4, 2) := by decide +kernel
theorem dX6_combine_88 : decode cX6_combine 88 = .ok (.lsub, 1) := by decide +kernel
theorem dX6_combine_89 : decode cX6_combine 89 = .ok (.goto 7, 3) := by decide +kernel
theorem dX6_combine_92 : decode cX6_combine 92 = .ok (.lload_n 2, 1) := by decide +kernel
theorem dX6_combine_93 : decode cX6_combine 93 = .ok (.lload 4, 2) := by decide +kernel
theorem dX6_combine_95 : decode cX6_combine 95 = .ok (.lmul, 1) := by decide +kernel
theorem dX6_combine_96 : decode cX6_combine 96 = .ok (.invokevirtual 124, 3) := by decide +kernel
theorem dX6_combine_99 : decode cX6_combine 99 = .ok (.return_, 1) := by decide +kernel
theorem dX6_tonsBy_0 : decode cX6_tonsBy 0 = .ok (.aload_n 0, 1) := by decide +kernel
theorem dX6_tonsBy_1 : decode cX6_tonsBy 1 = .ok (.iconst 0, 1) := by decide +kernel
theorem dX6_tonsBy_2 : decode cX6_tonsBy 2 = .ok (.putfield 115, 3) := by decide +kernel
theorem dX6_tonsBy_5 : decode cX6_tonsBy 5 = .ok (.iconst 0, 1) := by decide +kernel
theorem dX6_tonsBy_6 : decode cX6_tonsBy 6 = .ok (.istore 6, 2) := by decide +kernel
theorem dX6_tonsBy_8 : decode cX6_tonsBy 8 = .ok (.iconst 0, 1) := by decide +kernel
theorem dX6_tonsBy_9 : decode cX6_tonsBy 9 = .ok (.istore 7, 2) := by decide +kernel
theorem dX6_tonsBy_11 : decode cX6_tonsBy 11 = .ok (.iload 7, 2) := by decide +kernel
theorem dX6_tonsBy_13 : decode cX6_tonsBy 13 = .ok (.aload_n 0, 1) := by decide +kernel
theorem dX6_tonsBy_14 : decode cX6_tonsBy 14 = .ok (.getfield 16, 3) := by decide +kernel
theorem dX6_tonsBy_17 : decode cX6_tonsBy 17 = .ok (.iload_n 1, 1) := by decide +kernel
theorem dX6_tonsBy_18 : decode cX6_tonsBy 18 = .ok (.iaload, 1) := by decide +kernel
theorem dX6_tonsBy_19 : decode cX6_tonsBy 19 = .ok (.if_icmp .ge 233, 3) := by decide +kernel
theorem dX6_tonsBy_22 : decode cX6_tonsBy 22 = .ok (.aload_n 0, 1) := by decide +kernel
theorem dX6_tonsBy_23 : decode cX6_tonsBy 23 = .ok (.getfield 19, 3) := by decide +kernel
theorem dX6_tonsBy_26 : decode cX6_tonsBy 26 = .ok (.bipush 40, 2) := by decide +kernel
theorem dX6_tonsBy_28 : decode cX6_tonsBy 28 = .ok (.iload_n 1, 1) := by decide +kernel
theorem dX6_tonsBy_29 : decode cX6_tonsBy 29 = .ok (.imul, 1) := by decide +kernel
theorem dX6_tonsBy_30 : decode cX6_tonsBy 30 = .ok (.iload 7, 2) := by decide +kernel
theorem dX6_tonsBy_32 : decode cX6_tonsBy 32 = .ok (.iadd, 1) := by decide +kernel
theorem dX6_tonsBy_33 : decode cX6_tonsBy 33 = .ok (.iaload, 1) := by decide +kernel
theorem dX6_tonsBy_34 : decode cX6_tonsBy 34 = .ok (.istore 8, 2) := by decide +kernel
theorem dX6_tonsBy_36 : decode cX6_tonsBy 36 = .ok (.iload 8, 2) := by decide +kernel
theorem dX6_tonsBy_38 : decode cX6_tonsBy 38 = .ok (.invokestatic 93, 3) := by decide +kernel
theorem dX6_tonsBy_41 : decode cX6_tonsBy 41 = .ok (.ifCond .eq 60, 3) := by decide +kernel
theorem dX6_tonsBy_44 : decode cX6_tonsBy 44 = .ok (.iload 6, 2) := by decide +kernel
theorem dX6_tonsBy_46 : decode cX6_tonsBy 46 = .ok (.ifCond .eq 42, 3) := by decide +kernel
theorem dX6_tonsBy_49 : decode cX6_tonsBy 49 = .ok (.aload_n 0, 1) := by decide +kernel
theorem dX6_tonsBy_50 : decode cX6_tonsBy 50 = .ok (.dup, 1) := by decide +kernel
theorem dX6_tonsBy_51 : decode cX6_tonsBy 51 = .ok (.getfield 115, 3) := by decide +kernel
theorem dX6_tonsBy_54 : decode cX6_tonsBy 54 = .ok (.iconst 1, 1) := by decide +kernel
theorem dX6_tonsBy_55 : decode cX6_tonsBy 55 = .ok (.isub, 1) := by decide +kernel
theorem dX6_tonsBy_56 : decode cX6_tonsBy 56 = .ok (.putfield 115, 3) := by decide +kernel
theorem dX6_tonsBy_59 : decode cX6_tonsBy 59 = .ok (.aload_n 0, 1) := by decide +kernel
theorem dX6_tonsBy_60 : decode cX6_tonsBy 60 = .ok (.ldc2_w 128, 3) := by decide +kernel
theorem dX6_tonsBy_63 : decode cX6_tonsBy 63 = .ok (.aload_n 0, 1) := by decide +kernel
theorem dX6_tonsBy_64 : decode cX6_tonsBy 64 = .ok (.getfield 68, 3) := by decide +kernel
theorem dX6_tonsBy_67 : decode cX6_tonsBy 67 = .ok (.aload_n 0, 1) := by decide +kernel
theorem dX6_tonsBy_68 : decode cX6_tonsBy 68 = .ok (.getfield 115, 3) := by decide +kernel
theorem dX6_tonsBy_71 : decode cX6_tonsBy 71 = .ok (.iaload, 1) := by decide +kernel
theorem dX6_tonsBy_72 : decode cX6_tonsBy 72 = .ok (.i2l, 1) := by decide +kernel
theorem dX6_tonsBy_73 : decode cX6_tonsBy 73 = .ok (.lmul, 1) := by decide +kernel
theorem dX6_tonsBy_74 : decode cX6_tonsBy 74 = .ok (.iload 8, 2) := by decide +kernel
theorem dX6_tonsBy_76 : decode cX6_tonsBy 76 = .ok (.i2l, 1) := by decide +kernel
theorem dX6_tonsBy_77 : decode cX6_tonsBy 77 = .ok (.ladd, 1) := by decide +kernel
theorem dX6_tonsBy_78 : decode cX6_tonsBy 78 = .ok (.ldc2_w 130, 3) := by decide +kernel
theorem dX6_tonsBy_81 : decode cX6_tonsBy 81 = .ok (.lsub, 1) := by decide +kernel
theorem dX6_tonsBy_82 : decode cX6_tonsBy 82 = .ok (.invokevirtual 124, 3) := by decide +kernel
theorem dX6_tonsBy_85 : decode cX6_tonsBy 85 = .ok (.goto 154, 3) := by decide +kernel
theorem dX6_tonsBy_88 : decode cX6_tonsBy 88 = .ok (.aload_n 0, 1) := by decide +kernel
theorem dX6_tonsBy_89 : decode cX6_tonsBy 89 = .ok (.iload 8, 2) := by decide +kernel
theorem dX6_tonsBy_91 : decode cX6_tonsBy 91 = .ok (.bipush 48, 2) := by decide +kernel
theorem dX6_tonsBy_93 : decode cX6_tonsBy 93 = .ok (.isub, 1) := by decide +kernel
theorem dX6_tonsBy_94 : decode cX6_tonsBy 94 = .ok (.i2l, 1) := by decide +kernel
theorem dX6_tonsBy_95 : decode cX6_tonsBy 95 = .ok (.invokevirtual 124, 3) := by decide +kernel
theorem dX6_tonsBy_98 : decode cX6_tonsBy 98 = .ok (.goto 141, 3) := by decide +kernel
theorem dX6_tonsBy_101 : decode cX6_tonsBy 101 = .ok (.iload 8, 2) := by decide +kernel
theorem dX6_tonsBy_103 : decode cX6_tonsBy 103 = .ok (.bipush 33, 2) := by decide +kernel
theorem dX6_tonsBy_105 : decode cX6_tonsBy 105 = .ok (.if_icmp .ne 46, 3) := by decide +kernel
theorem dX6_tonsBy_108 : decode cX6_tonsBy 108 = .ok (.aload_n 0, 1) := by decide +kernel
theorem dX6_tonsBy_109 : decode cX6_tonsBy 109 = .ok (.getfield 68, 3) := by decide +kernel
theorem dX6_tonsBy_112 : decode cX6_tonsBy 112 = .ok (.aload_n 0, 1) := by decide +kernel
theorem dX6_tonsBy_113 : decode cX6_tonsBy 113 = .ok (.getfield 115, 3) := by decide +kernel
theorem dX6_tonsBy_116 : decode cX6_tonsBy 116 = .ok (.iconst 1, 1) := by decide +kernel
theorem dX6_tonsBy_117 : decode cX6_tonsBy 117 = .ok (.isub, 1) := by decide +kernel
theorem dX6_tonsBy_118 : decode cX6_tonsBy 118 = .ok (.aload_n 0, 1) := by decide +kernel
theorem dX6_tonsBy_119 : decode cX6_tonsBy 119 = .ok (.getfield 68, 3) := by decide +kernel
theorem dX6_tonsBy_122 : decode cX6_tonsBy 122 = .ok (.aload_n 0, 1) := by decide +kernel
theorem dX6_tonsBy_123 : decode cX6_tonsBy 123 = .ok (.getfield 115, 3) := by decide +kernel
theorem dX6_tonsBy_126 : decode cX6_tonsBy 126 = .ok (.iconst 1, 1) := by decide +kernel
theorem dX6_tonsBy_127 : decode cX6_tonsBy 127 = .ok (.isub, 1) := by decide +kernel
theorem dX6_tonsBy_128 : decode cX6_tonsBy 128 = .ok (.iaload, 1) := by decide +kernel
theorem dX6_tonsBy_129 : decode cX6_tonsBy 129 = .ok (.ifCond .ge 7, 3) := by decide +kernel
theorem dX6_tonsBy_132 : decode cX6_tonsBy 132 = .ok (.iconst 0, 1) := by decide +kernel
theorem dX6_tonsBy_133 : decode cX6_tonsBy 133 = .ok (.goto 14, 3) := by decide +kernel
theorem dX6_tonsBy_136 : decode cX6_tonsBy 136 = .ok (.aload_n 0, 1) := by decide +kernel
theorem dX6_tonsBy_137 : decode cX6_tonsBy 137 = .ok (.getfield 68, 3) := by decide +kernel
theorem dX6_tonsBy_140 : decode cX6_tonsBy 140 = .ok (.aload_n 0, 1) := by decide +kernel
theorem dX6_tonsBy_141 : decode cX6_tonsBy 141 = .ok (.getfield 115, 3) := by decide +kernel
theorem dX6_tonsBy_144 : decode cX6_tonsBy 144 = .ok (.iconst 1, 1) := by decide +kernel
theorem dX6_tonsBy_145 : decode cX6_tonsBy 145 = .ok (.isub, 1) := by decide +kernel
theorem dX6_tonsBy_146 : decode cX6_tonsBy 146 = .ok (.iaload, 1) := by decide +kernel
theorem dX6_tonsBy_147 : decode cX6_tonsBy 147 = .ok (.iastore, 1) := by decide +kernel
theorem dX6_tonsBy_148 : decode cX6_tonsBy 148 = .ok (.goto 91, 3) := by decide +kernel
theorem dX6_tonsBy_151 : decode cX6_tonsBy 151 = .ok (.iload 8, 2) := by decide +kernel
theorem dX6_tonsBy_153 : decode cX6_tonsBy 153 = .ok (.bipush 108, 2) := by decide +kernel
theorem dX6_tonsBy_155 : decode cX6_tonsBy 155 = .ok (.if_icmp .eq 24, 3) := by decide +kernel
theorem dX6_tonsBy_158 : decode cX6_tonsBy 158 = .ok (.iload 8, 2) := by decide +kernel
theorem dX6_tonsBy_160 : decode cX6_tonsBy 160 = .ok (.bipush 98, 2) := by decide +kernel
theorem dX6_tonsBy_162 : decode cX6_tonsBy 162 = .ok (.if_icmp .eq 17, 3) := by decide +kernel
theorem dX6_tonsBy_165 : decode cX6_tonsBy 165 = .ok (.iload 8, 2) := by decide +kernel
theorem dX6_tonsBy_167 : decode cX6_tonsBy 167 = .ok (.bipush 100, 2) := by decide +kernel
theorem dX6_tonsBy_169 : decode cX6_tonsBy 169 = .ok (.if_icmp .eq 10, 3) := by decide +kernel
theorem dX6_tonsBy_172 : decode cX6_tonsBy 172 = .ok (.iload 8, 2) := by decide +kernel
theorem dX6_tonsBy_174 : decode cX6_tonsBy 174 = .ok (.bipush 114, 2) := by decide +kernel
theorem dX6_tonsBy_176 : decode cX6_tonsBy 176 = .ok (.if_icmp .ne 50, 3) := by decide +kernel
theorem dX6_tonsBy_179 : decode cX6_tonsBy 179 = .ok (.aload_n 0, 1) := by decide +kernel
theorem dX6_tonsBy_180 : decode cX6_tonsBy 180 = .ok (.iload 8, 2) := by decide +kernel
theorem dX6_tonsBy_182 : decode cX6_tonsBy 182 = .ok (.bipush 108, 2) := by decide +kernel
theorem dX6_tonsBy_184 : decode cX6_tonsBy 184 = .ok (.if_icmp .ne 8, 3) := by decide +kernel
theorem dX6_tonsBy_187 : decode cX6_tonsBy 187 = .ok (.iload_n 2, 1) := by decide +kernel
theorem dX6_tonsBy_188 : decode cX6_tonsBy 188 = .ok (.i2l, 1) := by decide +kernel
theorem dX6_tonsBy_189 : decode cX6_tonsBy 189 = .ok (.goto 31, 3) := by decide +kernel
theorem dX6_tonsBy_192 : decode cX6_tonsBy 192 = .ok (.iload 8, 2) := by decide +kernel
theorem dX6_tonsBy_194 : decode cX6_tonsBy 194 = .ok (.bipush 98, 2) := by decide +kernel
theorem dX6_tonsBy_196 : decode cX6_tonsBy 196 = .ok (.if_icmp .ne 8, 3) := by decide +kernel
theorem dX6_tonsBy_199 : decode cX6_tonsBy 199 = .ok (.iload_n 3, 1) := by decide +kernel
theorem dX6_tonsBy_200 : decode cX6_tonsBy 200 = .ok (.i2l, 1) := by decide +kernel
theorem dX6_tonsBy_201 : decode cX6_tonsBy 201 = .ok (.goto 19, 3) := by decide +kernel
theorem dX6_tonsBy_204 : decode cX6_tonsBy 204 = .ok (.iload 8, 2) := by decide +kernel
theorem dX6_tonsBy_206 : decode cX6_tonsBy 206 = .ok (.bipush 100, 2) := by decide +kernel
theorem dX6_tonsBy_208 : decode cX6_tonsBy 208 = .ok (.if_icmp .ne 9, 3) := by decide +kernel
theorem dX6_tonsBy_211 : decode cX6_tonsBy 211 = .ok (.iload 4, 2) := by decide +kernel
theorem dX6_tonsBy_213 : decode cX6_tonsBy 213 = .ok (.i2l, 1) := by decide +kernel
theorem dX6_tonsBy_214 : decode cX6_tonsBy 214 = .ok (.goto 6, 3) := by decide +kernel
theorem dX6_tonsBy_217 : decode cX6_tonsBy 217 = .ok (.iload 5, 2) := by decide +kernel
theorem dX6_tonsBy_219 : decode cX6_tonsBy 219 = .ok (.i2l, 1) := by decide +kernel
theorem dX6_tonsBy_220 : decode cX6_tonsBy 220 = .ok (.invokevirtual 124, 3) := by decide +kernel
theorem dX6_tonsBy_223 : decode cX6_tonsBy 223 = .ok (.goto 16, 3) := by decide +kernel
theorem dX6_tonsBy_226 : decode cX6_tonsBy 226 = .ok (.iload 8, 2) := by decide +kernel
theorem dX6_tonsBy_228 : decode cX6_tonsBy 228 = .ok (.bipush 32, 2) := by decide +kernel
theorem dX6_tonsBy_230 : decode cX6_tonsBy 230 = .ok (.if_icmp .eq 9, 3) := by decide +kernel
theorem dX6_tonsBy_233 : decode cX6_tonsBy 233 = .ok (.aload_n 0, 1) := by decide +kernel
theorem dX6_tonsBy_234 : decode cX6_tonsBy 234 = .ok (.iload 8, 2) := by decide +kernel
theorem dX6_tonsBy_236 : decode cX6_tonsBy 236 = .ok (.invokevirtual 132, 3) := by decide +kernel
theorem dX6_tonsBy_239 : decode cX6_tonsBy 239 = .ok (.iload 8, 2) := by decide +kernel
theorem dX6_tonsBy_241 : decode cX6_tonsBy 241 = .ok (.invokestatic 93, 3) := by decide +kernel
theorem dX6_tonsBy_244 : decode cX6_tonsBy 244 = .ok (.istore 6, 2) := by decide +kernel
theorem dX6_tonsBy_246 : decode cX6_tonsBy 246 = .ok (.iinc 7 1, 3) := by decide +kernel
theorem dX6_tonsBy_249 : decode cX6_tonsBy 249 = .ok (.goto (-238), 3) := by decide +kernel
theorem dX6_tonsBy_252 : decode cX6_tonsBy 252 = .ok (.aload_n 0, 1) := by decide +kernel
theorem dX6_tonsBy_253 : decode cX6_tonsBy 253 = .ok (.getfield 68, 3) := by decide +kernel
theorem dX6_tonsBy_256 : decode cX6_tonsBy 256 = .ok (.iconst 0, 1) := by decide +kernel
theorem dX6_tonsBy_257 : decode cX6_tonsBy 257 = .ok (.iaload, 1) := by decide +kernel
theorem dX6_tonsBy_258 : decode cX6_tonsBy 258 = .ok (.ireturn, 1) := by decide +kernel
theorem dX6_areSizes_0 : decode cX6_areSizes 0 = .ok (.iload_n 0, 1) := by decide +kernel
theorem dX6_areSizes_1 : decode cX6_areSizes 1 = .ok (.iconst 1, 1) := by decide +kernel
theorem dX6_areSizes_2 : decode cX6_areSizes 2 = .ok (.bipush 99, 2) := by decide +kernel
theorem dX6_areSizes_4 : decode cX6_areSizes 4 = .ok (.invokestatic 101, 3) := by decide +kernel
theorem dX6_areSizes_7 : decode cX6_areSizes 7 = .ok (.ifCond .eq 38, 3) := by decide +kernel
theorem dX6_areSizes_10 : decode cX6_areSizes 10 = .ok (.iload_n 1, 1) := by decide +kernel
theorem dX6_areSizes_11 : decode cX6_areSizes 11 = .ok (.iconst 1, 1) := by decide +kernel
theorem dX6_areSizes_12 : decode cX6_areSizes 12 = .ok (.bipush 99, 2) := by decide +kernel
theorem dX6_areSizes_14 : decode cX6_areSizes 14 = .ok (.invokestatic 101, 3) := by decide +kernel
theorem dX6_areSizes_17 : decode cX6_areSizes 17 = .ok (.ifCond .eq 28, 3) := by decide +kernel
theorem dX6_areSizes_20 : decode cX6_areSizes 20 = .ok (.iload_n 2, 1) := by decide +kernel
theorem dX6_areSizes_21 : decode cX6_areSizes 21 = .ok (.iconst 1, 1) := by decide +kernel
theorem dX6_areSizes_22 : decode cX6_areSizes 22 = .ok (.bipush 99, 2) := by decide +kernel
theorem dX6_areSizes_24 : decode cX6_areSizes 24 = .ok (.invokestatic 101, 3) := by decide +kernel
theorem dX6_areSizes_27 : decode cX6_areSizes 27 = .ok (.ifCond .eq 18, 3) := by decide +kernel
theorem dX6_areSizes_30 : decode cX6_areSizes 30 = .ok (.iload_n 3, 1) := by decide +kernel
theorem dX6_areSizes_31 : decode cX6_areSizes 31 = .ok (.iconst 0, 1) := by decide +kernel
theorem dX6_areSizes_32 : decode cX6_areSizes 32 = .ok (.sipush 999, 3) := by decide +kernel
theorem dX6_areSizes_35 : decode cX6_areSizes 35 = .ok (.invokestatic 101, 3) := by decide +kernel
theorem dX6_areSizes_38 : decode cX6_areSizes 38 = .ok (.ifCond .eq 7, 3) := by decide +kernel
theorem dX6_areSizes_41 : decode cX6_areSizes 41 = .ok (.iconst 1, 1) := by decide +kernel
theorem dX6_areSizes_42 : decode cX6_areSizes 42 = .ok (.goto 4, 3) := by decide +kernel
theorem dX6_areSizes_45 : decode cX6_areSizes 45 = .ok (.iconst 0, 1) := by decide +kernel
theorem dX6_areSizes_46 : decode cX6_areSizes 46 = .ok (.ireturn, 1) := by decide +kernel
theorem dX6_tons_0 : decode cX6_tons 0 = .ok (.aload_n 0, 1) := by decide +kernel
theorem dX6_tons_1 : decode cX6_tons 1 = .ok (.iload_n 1, 1) := by decide +kernel
theorem dX6_tons_2 : decode cX6_tons 2 = .ok (.invokevirtual 136, 3) := by decide +kernel
theorem dX6_tons_5 : decode cX6_tons 5 = .ok (.ifCond .eq 29, 3) := by decide +kernel
theorem dX6_tons_8 : decode cX6_tons 8 = .ok (.iload_n 2, 1) := by decide +kernel
theorem dX6_tons_9 : decode cX6_tons 9 = .ok (.iload_n 3, 1) := by decide +kernel
theorem dX6_tons_10 : decode cX6_tons 10 = .ok (.iload 4, 2) := by decide +kernel
theorem dX6_tons_12 : decode cX6_tons 12 = .ok (.iload 5, 2) := by decide +kernel
theorem dX6_tons_14 : decode cX6_tons 14 = .ok (.invokestatic 139, 3) := by decide +kernel
theorem dX6_tons_17 : decode cX6_tons 17 = .ok (.ifCond .eq 17, 3) := by decide +kernel
theorem dX6_tons_20 : decode cX6_tons 20 = .ok (.aload_n 0, 1) := by decide +kernel
theorem dX6_tons_21 : decode cX6_tons 21 = .ok (.iload_n 1, 1) := by decide +kernel
theorem dX6_tons_22 : decode cX6_tons 22 = .ok (.iload_n 2, 1) := by decide +kernel
theorem dX6_tons_23 : decode cX6_tons 23 = .ok (.iload_n 3, 1) := by decide +kernel
theorem dX6_tons_24 : decode cX6_tons 24 = .ok (.iload 4, 2) := by decide +kernel
theorem dX6_tons_26 : decode cX6_tons 26 = .ok (.iload 5, 2) := by decide +kernel
theorem dX6_tons_28 : decode cX6_tons 28 = .ok (.invokevirtual 143, 3) := by decide +kernel
theorem dX6_tons_31 : decode cX6_tons 31 = .ok (.goto 5, 3) := by decide +kernel
theorem dX6_tons_34 : decode cX6_tons 34 = .ok (.ldc 147, 2) := by decide +kernel
theorem dX6_tons_36 : decode cX6_tons 36 = .ok (.ireturn, 1) := by decide +kernel
theorem dX6_shape_0 : decode cX6_shape 0 = .ok (.aload_n 0, 1) := by decide +kernel
theorem dX6_shape_1 : decode cX6_shape 1 = .ok (.iload_n 1, 1) := by decide +kernel
theorem dX6_shape_2 : decode cX6_shape 2 = .ok (.invokevirtual 136, 3) := by decide +kernel
theorem dX6_shape_5 : decode cX6_shape 5 = .ok (.ifCond .eq 23, 3) := by decide +kernel
theorem dX6_shape_8 : decode cX6_shape 8 = .ok (.iload_n 2, 1) := by decide +kernel
theorem dX6_shape_9 : decode cX6_shape 9 = .ok (.iconst 1, 1) := by decide +kernel
theorem dX6_shape_10 : decode cX6_shape 10 = .ok (.sipush 1728, 3) := by decide +kernel
theorem dX6_shape_13 : decode cX6_shape 13 = .ok (.invokestatic 101, 3) := by decide +kernel
theorem dX6_shape_16 : decode cX6_shape 16 = .ok (.ifCond .eq 12, 3) := by decide +kernel
theorem dX6_shape_19 : decode cX6_shape 19 = .ok (.iload_n 3, 1) := by decide +kernel
theorem dX6_shape_20 : decode cX6_shape 20 = .ok (.iconst 0, 1) := by decide +kernel
theorem dX6_shape_21 : decode cX6_shape 21 = .ok (.iconst 3, 1) := by decide +kernel
theorem dX6_shape_22 : decode cX6_shape 22 = .ok (.invokestatic 101, 3) := by decide +kernel
theorem dX6_shape_25 : decode cX6_shape 25 = .ok (.ifCond .ne 6, 3) := by decide +kernel
theorem dX6_shape_28 : decode cX6_shape 28 = .ok (.ldc 147, 2) := by decide +kernel
theorem dX6_shape_30 : decode cX6_shape 30 = .ok (.ireturn, 1) := by decide +kernel
theorem dX6_shape_31 : decode cX6_shape 31 = .ok (.ldc 148, 2) := by decide +kernel
theorem dX6_shape_33 : decode cX6_shape 33 = .ok (.istore 4, 2) := by decide +kernel
theorem dX6_shape_35 : decode cX6_shape 35 = .ok (.iconst 0, 1) := by decide +kernel
theorem dX6_shape_36 : decode cX6_shape 36 = .ok (.istore 5, 2) := by decide +kernel
theorem dX6_shape_38 : decode cX6_shape 38 = .ok (.iconst 1, 1) := by decide +kernel
theorem dX6_shape_39 : decode cX6_shape 39 = .ok (.istore 6, 2) := by decide +kernel
theorem dX6_shape_41 : decode cX6_shape 41 = .ok (.iload 6, 2) := by decide +kernel
theorem dX6_shape_43 : decode cX6_shape 43 = .ok (.bipush 12, 2) := by decide +kernel
theorem dX6_shape_45 : decode cX6_shape 45 = .ok (.if_icmp .gt 116, 3) := by decide +kernel
theorem dX6_shape_48 : decode cX6_shape 48 = .ok (.iconst 1, 1) := by decide +kernel
theorem dX6_shape_49 : decode cX6_shape 49 = .ok (.istore 7, 2) := by decide +kernel
theorem dX6_shape_51 : decode cX6_shape 51 = .ok (.iload 7, 2) := by decide +kernel
theorem dX6_shape_53 : decode cX6_shape 53 = .ok (.bipush 12, 2) := by decide +kernel
theorem dX6_shape_55 : decode cX6_shape 55 = .ok (.if_icmp .gt 100, 3) := by decide +kernel
theorem dX6_shape_58 : decode cX6_shape 58 = .ok (.iconst 1, 1) := by decide +kernel
theorem dX6_shape_59 : decode cX6_shape 59 = .ok (.istore 8, 2) := by decide +kernel
theorem dX6_shape_61 : decode cX6_shape 61 = .ok (.iload 8, 2) := by decide +kernel
theorem dX6_shape_63 : decode cX6_shape 63 = .ok (.bipush 12, 2) := by decide +kernel
theorem dX6_shape_65 : decode cX6_shape 65 = .ok (.if_icmp .gt 84, 3) := by decide +kernel
theorem dX6_shape_68 : decode cX6_shape 68 = .ok (.iload 6, 2) := by decide +kernel
theorem dX6_shape_70 : decode cX6_shape 70 = .ok (.iload 7, 2) := by decide +kernel
theorem dX6_shape_72 : decode cX6_shape 72 = .ok (.imul, 1) := by decide +kernel
theorem dX6_shape_73 : decode cX6_shape 73 = .ok (.iload 8, 2) := by decide +kernel
theorem dX6_shape_75 : decode cX6_shape 75 = .ok (.imul, 1) := by decide +kernel
theorem dX6_shape_76 : decode cX6_shape 76 = .ok (.iload_n 2, 1) := by decide +kernel
theorem dX6_shape_77 : decode cX6_shape 77 = .ok (.if_icmp .ge 8, 3) := by decide +kernel
theorem dX6_shape_80 : decode cX6_shape 80 = .ok (.ldc 148, 2) := by decide +kernel
theorem dX6_shape_82 : decode cX6_shape 82 = .ok (.goto 15, 3) := by decide +kernel
theorem dX6_shape_85 : decode cX6_shape 85 = .ok (.aload_n 0, 1) := by decide +kernel
theorem dX6_shape_86 : decode cX6_shape 86 = .ok (.iload_n 1, 1) := by decide +kernel
theorem dX6_shape_87 : decode cX6_shape 87 = .ok (.iload 6, 2) := by decide +kernel
theorem dX6_shape_89 : decode cX6_shape 89 = .ok (.iload 7, 2) := by decide +kernel
theorem dX6_shape_91 : decode cX6_shape 91 = .ok (.iload 8, 2) := by decide +kernel
theorem dX6_shape_93 : decode cX6_shape 93 = .ok (.iconst 0, 1) := by decide +kernel
theorem dX6_shape_94 : decode cX6_shape 94 = .ok (.invokevirtual 143, 3) := by decide +kernel
theorem dX6_shape_97 : decode cX6_shape 97 = .ok (.istore 9, 2) := by decide +kernel
theorem dX6_shape_99 : decode cX6_shape 99 = .ok (.iload 9, 2) := by decide +kernel
theorem dX6_shape_101 : decode cX6_shape 101 = .ok (.iload 4, 2) := by decide +kernel
theorem dX6_shape_103 : decode cX6_shape 103 = .ok (.if_icmp .ge 40, 3) := by decide +kernel
theorem dX6_shape_106 : decode cX6_shape 106 = .ok (.iload 9, 2) := by decide +kernel
theorem dX6_shape_108 : decode cX6_shape 108 = .ok (.istore 4, 2) := by decide +kernel
theorem dX6_shape_110 : decode cX6_shape 110 = .ok (.iload_n 3, 1) := by decide +kernel
theorem dX6_shape_111 : decode cX6_shape 111 = .ok (.ifCond .ne 8, 3) := by decide +kernel
theorem dX6_shape_114 : decode cX6_shape 114 = .ok (.iload 6, 2) := by decide +kernel
theorem dX6_shape_116 : decode cX6_shape 116 = .ok (.goto 25, 3) := by decide +kernel
theorem dX6_shape_119 : decode cX6_shape 119 = .ok (.iload_n 3, 1) := by decide +kernel
theorem dX6_shape_120 : decode cX6_shape 120 = .ok (.iconst 1, 1) := by decide +kernel
theorem dX6_shape_121 : decode cX6_shape 121 = .ok (.if_icmp .ne 8, 3) := by decide +kernel
theorem dX6_shape_124 : decode cX6_shape 124 = .ok (.iload 7, 2) := by decide +kernel
theorem dX6_shape_126 : decode cX6_shape 126 = .ok (.goto 15, 3) := by decide +kernel
theorem dX6_shape_129 : decode cX6_shape 129 = .ok (.iload_n 3, 1) := by decide +kernel
theorem dX6_shape_130 : decode cX6_shape 130 = .ok (.iconst 2, 1) := by decide +kernel
theorem dX6_shape_131 : decode cX6_shape 131 = .ok (.if_icmp .ne 8, 3) := by decide +kernel
theorem dX6_shape_134 : decode cX6_shape 134 = .ok (.iload 8, 2) := by decide +kernel
theorem dX6_shape_136 : decode cX6_shape 136 = .ok (.goto 5, 3) := by decide +kernel
theorem dX6_shape_139 : decode cX6_shape 139 = .ok (.iload 9, 2) := by decide +kernel
theorem dX6_shape_141 : decode cX6_shape 141 = .ok (.istore 5, 2) := by decide +kernel
theorem dX6_shape_143 : decode cX6_shape 143 = .ok (.iinc 8 1, 3) := by decide +kernel
theorem dX6_shape_146 : decode cX6_shape 146 = .ok (.goto (-85), 3) := by decide +kernel
theorem dX6_shape_149 : decode cX6_shape 149 = .ok (.iinc 7 1, 3) := by decide +kernel
theorem dX6_shape_152 : decode cX6_shape 152 = .ok (.goto (-101), 3) := by decide +kernel
theorem dX6_shape_155 : decode cX6_shape 155 = .ok (.iinc 6 1, 3) := by decide +kernel
theorem dX6_shape_158 : decode cX6_shape 158 = .ok (.goto (-117), 3) := by decide +kernel
theorem dX6_shape_161 : decode cX6_shape 161 = .ok (.iload 5, 2) := by decide +kernel
theorem dX6_shape_163 : decode cX6_shape 163 = .ok (.ireturn, 1) := by decide +kernel
theorem dX6_isHull_0 : decode cX6_isHull 0 = .ok (.iload_n 1, 1) := by decide +kernel
theorem dX6_isHull_1 : decode cX6_isHull 1 = .ok (.iconst 0, 1) := by decide +kernel
theorem dX6_isHull_2 : decode cX6_isHull 2 = .ok (.aload_n 0, 1) := by decide +kernel
theorem dX6_isHull_3 : decode cX6_isHull 3 = .ok (.getfield 149, 3) := by decide +kernel
theorem dX6_isHull_6 : decode cX6_isHull 6 = .ok (.iconst 1, 1) := by decide +kernel
theorem dX6_isHull_7 : decode cX6_isHull 7 = .ok (.isub, 1) := by decide +kernel
theorem dX6_isHull_8 : decode cX6_isHull 8 = .ok (.invokestatic 101, 3) := by decide +kernel
theorem dX6_isHull_11 : decode cX6_isHull 11 = .ok (.ireturn, 1) := by decide +kernel
theorem dX6_put_0 : decode cX6_put 0 = .ok (.aload_n 0, 1) := by decide +kernel
theorem dX6_put_1 : decode cX6_put 1 = .ok (.getfield 22, 3) := by decide +kernel
theorem dX6_put_4 : decode cX6_put 4 = .ok (.iconst 4, 1) := by decide +kernel
theorem dX6_put_5 : decode cX6_put 5 = .ok (.iload_n 1, 1) := by decide +kernel
theorem dX6_put_6 : decode cX6_put 6 = .ok (.imul, 1) := by decide +kernel
theorem dX6_put_7 : decode cX6_put 7 = .ok (.iload_n 2, 1) := by decide +kernel
theorem dX6_put_8 : decode cX6_put 8 = .ok (.iastore, 1) := by decide +kernel
theorem dX6_put_9 : decode cX6_put 9 = .ok (.aload_n 0, 1) := by decide +kernel
theorem dX6_put_10 : decode cX6_put 10 = .ok (.getfield 22, 3) := by decide +kernel
theorem dX6_put_13 : decode cX6_put 13 = .ok (.iconst 4, 1) := by decide +kernel
theorem dX6_put_14 : decode cX6_put 14 = .ok (.iload_n 1, 1) := by decide +kernel
theorem dX6_put_15 : decode cX6_put 15 = .ok (.imul, 1) := by decide +kernel
theorem dX6_put_16 : decode cX6_put 16 = .ok (.iconst 1, 1) := by decide +kernel
theorem dX6_put_17 : decode cX6_put 17 = .ok (.iadd, 1) := by decide +kernel
theorem dX6_put_18 : decode cX6_put 18 = .ok (.iload_n 3, 1) := by decide +kernel
theorem dX6_put_19 : decode cX6_put 19 = .ok (.iastore, 1) := by decide +kernel
theorem dX6_put_20 : decode cX6_put 20 = .ok (.aload_n 0, 1) := by decide +kernel
theorem dX6_put_21 : decode cX6_put 21 = .ok (.getfield 22, 3) := by decide +kernel
theorem dX6_put_24 : decode cX6_put 24 = .ok (.iconst 4, 1) := by decide +kernel
theorem dX6_put_25 : decode cX6_put 25 = .ok (.iload_n 1, 1) := by decide +kernel
theorem dX6_put_26 : decode cX6_put 26 = .ok (.imul, 1) := by decide +kernel
theorem dX6_put_27 : decode cX6_put 27 = .ok (.iconst 2, 1) := by decide +kernel
theorem dX6_put_28 : decode cX6_put 28 = .ok (.iadd, 1) := by decide +kernel
theorem dX6_put_29 : decode cX6_put 29 = .ok (.iload 4, 2) := by decide +kernel
theorem dX6_put_31 : decode cX6_put 31 = .ok (.iastore, 1) := by decide +kernel
theorem dX6_put_32 : decode cX6_put 32 = .ok (.aload_n 0, 1) := by decide +kernel
theorem dX6_put_33 : decode cX6_put 33 = .ok (.getfield 22, 3) := by decide +kernel
theorem dX6_put_36 : decode cX6_put 36 = .ok (.iconst 4, 1) := by decide +kernel
theorem dX6_put_37 : decode cX6_put 37 = .ok (.iload_n 1, 1) := by decide +kernel
theorem dX6_put_38 : decode cX6_put 38 = .ok (.imul, 1) := by decide +kernel
theorem dX6_put_39 : decode cX6_put 39 = .ok (.iconst 3, 1) := by decide +kernel
theorem dX6_put_40 : decode cX6_put 40 = .ok (.iadd, 1) := by decide +kernel
theorem dX6_put_41 : decode cX6_put 41 = .ok (.iload 5, 2) := by decide +kernel
theorem dX6_put_43 : decode cX6_put 43 = .ok (.iastore, 1) := by decide +kernel
theorem dX6_put_44 : decode cX6_put 44 = .ok (.return_, 1) := by decide +kernel
theorem dX6_hull_0 : decode cX6_hull 0 = .ok (.iload_n 1, 1) := by decide +kernel
theorem dX6_hull_1 : decode cX6_hull 1 = .ok (.iload_n 2, 1) := by decide +kernel
theorem dX6_hull_2 : decode cX6_hull 2 = .ok (.iload_n 3, 1) := by decide +kernel
theorem dX6_hull_3 : decode cX6_hull 3 = .ok (.iload 4, 2) := by decide +kernel
theorem dX6_hull_5 : decode cX6_hull 5 = .ok (.invokestatic 139, 3) := by decide +kernel
theorem dX6_hull_8 : decode cX6_hull 8 = .ok (.ifCond .ne 5, 3) := by decide +kernel
theorem dX6_hull_11 : decode cX6_hull 11 = .ok (.iconst (-1), 1) := by decide +kernel
theorem dX6_hull_12 : decode cX6_hull 12 = .ok (.ireturn, 1) := by decide +kernel
theorem dX6_hull_13 : decode cX6_hull 13 = .ok (.aload_n 0, 1) := by decide +kernel
theorem dX6_hull_14 : decode cX6_hull 14 = .ok (.getfield 149, 3) := by decide +kernel
theorem dX6_hull_17 : decode cX6_hull 17 = .ok (.iconst 5, 1) := by decide +kernel
theorem dX6_hull_18 : decode cX6_hull 18 = .ok (.if_icmp .ne 6, 3) := by decide +kernel
theorem dX6_hull_21 : decode cX6_hull 21 = .ok (.bipush (-2), 2) := by decide +kernel
theorem dX6_hull_23 : decode cX6_hull 23 = .ok (.ireturn, 1) := by decide +kernel
theorem dX6_hull_24 : decode cX6_hull 24 = .ok (.aload_n 0, 1) := by decide +kernel
theorem dX6_hull_25 : decode cX6_hull 25 = .ok (.aload_n 0, 1) := by decide +kernel
theorem dX6_hull_26 : decode cX6_hull 26 = .ok (.getfield 149, 3) := by decide +kernel
theorem dX6_hull_29 : decode cX6_hull 29 = .ok (.iload_n 1, 1) := by decide +kernel
theorem dX6_hull_30 : decode cX6_hull 30 = .ok (.iload_n 2, 1) := by decide +kernel
theorem dX6_hull_31 : decode cX6_hull 31 = .ok (.iload_n 3, 1) := by decide +kernel
theorem dX6_hull_32 : decode cX6_hull 32 = .ok (.iload 4, 2) := by decide +kernel
theorem dX6_hull_34 : decode cX6_hull 34 = .ok (.invokevirtual 152, 3) := by decide +kernel
theorem dX6_hull_37 : decode cX6_hull 37 = .ok (.aload_n 0, 1) := by decide +kernel
theorem dX6_hull_38 : decode cX6_hull 38 = .ok (.getfield 28, 3) := by decide +kernel
theorem dX6_hull_41 : decode cX6_hull 41 = .ok (.aload_n 0, 1) := by decide +kernel
theorem dX6_hull_42 : decode cX6_hull 42 = .ok (.getfield 149, 3) := by decide +kernel
theorem dX6_hull_45 : decode cX6_hull 45 = .ok (.iconst (-1), 1) := by decide +kernel
theorem dX6_hull_46 : decode cX6_hull 46 = .ok (.iastore, 1) := by decide +kernel
theorem dX6_hull_47 : decode cX6_hull 47 = .ok (.aload_n 0, 1) := by decide +kernel
theorem dX6_hull_48 : decode cX6_hull 48 = .ok (.dup, 1) := by decide +kernel
theorem dX6_hull_49 : decode cX6_hull 49 = .ok (.getfield 149, 3) := by decide +kernel
theorem dX6_hull_52 : decode cX6_hull 52 = .ok (.iconst 1, 1) := by decide +kernel
theorem dX6_hull_53 : decode cX6_hull 53 = .ok (.iadd, 1) := by decide +kernel
theorem dX6_hull_54 : decode cX6_hull 54 = .ok (.putfield 149, 3) := by decide +kernel
theorem dX6_hull_57 : decode cX6_hull 57 = .ok (.aload_n 0, 1) := by decide +kernel
theorem dX6_hull_58 : decode cX6_hull 58 = .ok (.getfield 149, 3) := by decide +kernel
theorem dX6_hull_61 : decode cX6_hull 61 = .ok (.iconst 1, 1) := by decide +kernel
theorem dX6_hull_62 : decode cX6_hull 62 = .ok (.isub, 1) := by decide +kernel
theorem dX6_hull_63 : decode cX6_hull 63 = .ok (.ireturn, 1) := by decide +kernel
theorem dX6_alter_0 : decode cX6_alter 0 = .ok (.aload_n 0, 1) := by decide +kernel
theorem dX6_alter_1 : decode cX6_alter 1 = .ok (.iload_n 1, 1) := by decide +kernel
theorem dX6_alter_2 : decode cX6_alter 2 = .ok (.invokevirtual 156, 3) := by decide +kernel
theorem dX6_alter_5 : decode cX6_alter 5 = .ok (.ifCond .eq 15, 3) := by decide +kernel
theorem dX6_alter_8 : decode cX6_alter 8 = .ok (.iload_n 2, 1) := by decide +kernel
theorem dX6_alter_9 : decode cX6_alter 9 = .ok (.iload_n 3, 1) := by decide +kernel
theorem dX6_alter_10 : decode cX6_alter 10 = .ok (.iload 4, 2) := by decide +kernel
theorem dX6_alter_12 : decode cX6_alter 12 = .ok (.iload 5, 2) := by decide +kernel
theorem dX6_alter_14 : decode cX6_alter 14 = .ok (.invokestatic 139, 3) := by decide +kernel
theorem dX6_alter_17 : decode cX6_alter 17 = .ok (.ifCond .ne 5, 3) := by decide +kernel
theorem dX6_alter_20 : decode cX6_alter 20 = .ok (.iconst (-1), 1) := by decide +kernel
theorem dX6_alter_21 : decode cX6_alter 21 = .ok (.ireturn, 1) := by decide +kernel
theorem dX6_alter_22 : decode cX6_alter 22 = .ok (.aload_n 0, 1) := by decide +kernel
theorem dX6_alter_23 : decode cX6_alter 23 = .ok (.iload_n 1, 1) := by decide +kernel
theorem dX6_alter_24 : decode cX6_alter 24 = .ok (.iload_n 2, 1) := by decide +kernel
theorem dX6_alter_25 : decode cX6_alter 25 = .ok (.iload_n 3, 1) := by decide +kernel
theorem dX6_alter_26 : decode cX6_alter 26 = .ok (.iload 4, 2) := by decide +kernel
theorem dX6_alter_28 : decode cX6_alter 28 = .ok (.iload 5, 2) := by decide +kernel
theorem dX6_alter_30 : decode cX6_alter 30 = .ok (.invokevirtual 152, 3) := by decide +kernel
theorem dX6_alter_33 : decode cX6_alter 33 = .ok (.iconst 1, 1) := by decide +kernel
theorem dX6_alter_34 : decode cX6_alter 34 = .ok (.ireturn, 1) := by decide +kernel
theorem dX6_measure_0 : decode cX6_measure 0 = .ok (.aload_n 0, 1) := by decide +kernel
theorem dX6_measure_1 : decode cX6_measure 1 = .ok (.iload_n 1, 1) := by decide +kernel
theorem dX6_measure_2 : decode cX6_measure 2 = .ok (.invokevirtual 156, 3) := by decide +kernel
theorem dX6_measure_5 : decode cX6_measure 5 = .ok (.ifCond .eq 14, 3) := by decide +kernel
theorem dX6_measure_8 : decode cX6_measure 8 = .ok (.iload_n 2, 1) := by decide +kernel
theorem dX6_measure_9 : decode cX6_measure 9 = .ok (.iconst 0, 1) := by decide +kernel
theorem dX6_measure_10 : decode cX6_measure 10 = .ok (.sipush 999, 3) := by decide +kernel
theorem dX6_measure_13 : decode cX6_measure 13 = .ok (.invokestatic 101, 3) := by decide +kernel
theorem dX6_measure_16 : decode cX6_measure 16 = .ok (.ifCond .ne 5, 3) := by decide +kernel
theorem dX6_measure_19 : decode cX6_measure 19 = .ok (.iconst (-1), 1) := by decide +kernel
theorem dX6_measure_20 : decode cX6_measure 20 = .ok (.ireturn, 1) := by decide +kernel
theorem dX6_measure_21 : decode cX6_measure 21 = .ok (.aload_n 0, 1) := by decide +kernel
theorem dX6_measure_22 : decode cX6_measure 22 = .ok (.iload_n 2, 1) := by decide +kernel
theorem dX6_measure_23 : decode cX6_measure 23 = .ok (.invokevirtual 112, 3) := by decide +kernel
theorem dX6_measure_26 : decode cX6_measure 26 = .ok (.istore_n 3, 1) := by decide +kernel
theorem dX6_measure_27 : decode cX6_measure 27 = .ok (.iload_n 3, 1) := by decide +kernel
theorem dX6_measure_28 : decode cX6_measure 28 = .ok (.ifCond .ge 6, 3) := by decide +kernel
theorem dX6_measure_31 : decode cX6_measure 31 = .ok (.bipush (-4), 2) := by decide +kernel
theorem dX6_measure_33 : decode cX6_measure 33 = .ok (.ireturn, 1) := by decide +kernel
theorem dX6_measure_34 : decode cX6_measure 34 = .ok (.aload_n 0, 1) := by decide +kernel
theorem dX6_measure_35 : decode cX6_measure 35 = .ok (.getfield 25, 3) := by decide +kernel
theorem dX6_measure_38 : decode cX6_measure 38 = .ok (.iload_n 1, 1) := by decide +kernel
theorem dX6_measure_39 : decode cX6_measure 39 = .ok (.aload_n 0, 1) := by decide +kernel
theorem dX6_measure_40 : decode cX6_measure 40 = .ok (.iload_n 3, 1) := by decide +kernel
theorem dX6_measure_41 : decode cX6_measure 41 = .ok (.aload_n 0, 1) := by decide +kernel
theorem dX6_measure_42 : decode cX6_measure 42 = .ok (.getfield 22, 3) := by decide +kernel
theorem dX6_measure_45 : decode cX6_measure 45 = .ok (.iconst 4, 1) := by decide +kernel
theorem dX6_measure_46 : decode cX6_measure 46 = .ok (.iload_n 1, 1) := by decide +kernel
theorem dX6_measure_47 : decode cX6_measure 47 = .ok (.imul, 1) := by decide +kernel
theorem dX6_measure_48 : decode cX6_measure 48 = .ok (.iaload, 1) := by decide +kernel
theorem dX6_measure_49 : decode cX6_measure 49 = .ok (.aload_n 0, 1) := by decide +kernel
theorem dX6_measure_50 : decode cX6_measure 50 = .ok (.getfield 22, 3) := by decide +kernel
theorem dX6_measure_53 : decode cX6_measure 53 = .ok (.iconst 4, 1) := by decide +kernel
theorem dX6_measure_54 : decode cX6_measure 54 = .ok (.iload_n 1, 1) := by decide +kernel
theorem dX6_measure_55 : decode cX6_measure 55 = .ok (.imul, 1) := by decide +kernel
theorem dX6_measure_56 : decode cX6_measure 56 = .ok (.iconst 1, 1) := by decide +kernel
theorem dX6_measure_57 : decode cX6_measure 57 = .ok (.iadd, 1) := by decide +kernel
theorem dX6_measure_58 : decode cX6_measure 58 = .ok (.iaload, 1) := by decide +kernel
theorem dX6_measure_59 : decode cX6_measure 59 = .ok (.aload_n 0, 1) := by decide +kernel
theorem dX6_measure_60 : decode cX6_measure 60 = .ok (.getfield 22, 3) := by decide +kernel
theorem dX6_measure_63 : decode cX6_measure 63 = .ok (.iconst 4, 1) := by decide +kernel
theorem dX6_measure_64 : decode cX6_measure 64 = .ok (.iload_n 1, 1) := by decide +kernel
theorem dX6_measure_65 : decode cX6_measure 65 = .ok (.imul, 1) := by decide +kernel
theorem dX6_measure_66 : decode cX6_measure 66 = .ok (.iconst 2, 1) := by decide +kernel
theorem dX6_measure_67 : decode cX6_measure 67 = .ok (.iadd, 1) := by decide +kernel
theorem dX6_measure_68 : decode cX6_measure 68 = .ok (.iaload, 1) := by decide +kernel
theorem dX6_measure_69 : decode cX6_measure 69 = .ok (.aload_n 0, 1) := by decide +kernel
theorem dX6_measure_70 : decode cX6_measure 70 = .ok (.getfield 22, 3) := by decide +kernel
theorem dX6_measure_73 : decode cX6_measure 73 = .ok (.iconst 4, 1) := by decide +kernel
theorem dX6_measure_74 : decode cX6_measure 74 = .ok (.iload_n 1, 1) := by decide +kernel
theorem dX6_measure_75 : decode cX6_measure 75 = .ok (.imul, 1) := by decide +kernel
theorem dX6_measure_76 : decode cX6_measure 76 = .ok (.iconst 3, 1) := by decide +kernel
theorem dX6_measure_77 : decode cX6_measure 77 = .ok (.iadd, 1) := by decide +kernel
theorem dX6_measure_78 : decode cX6_measure 78 = .ok (.iaload, 1) := by decide +kernel
theorem dX6_measure_79 : decode cX6_measure 79 = .ok (.invokevirtual 143, 3) := by decide +kernel
theorem dX6_measure_82 : decode cX6_measure 82 = .ok (.iastore, 1) := by decide +kernel
theorem dX6_measure_83 : decode cX6_measure 83 = .ok (.aload_n 0, 1) := by decide +kernel
theorem dX6_measure_84 : decode cX6_measure 84 = .ok (.getfield 28, 3) := by decide +kernel
theorem dX6_measure_87 : decode cX6_measure 87 = .ok (.iload_n 1, 1) := by decide +kernel
theorem dX6_measure_88 : decode cX6_measure 88 = .ok (.iload_n 2, 1) := by decide +kernel
theorem dX6_measure_89 : decode cX6_measure 89 = .ok (.iastore, 1) := by decide +kernel
theorem dX6_measure_90 : decode cX6_measure 90 = .ok (.aload_n 0, 1) := by decide +kernel
theorem dX6_measure_91 : decode cX6_measure 91 = .ok (.getfield 31, 3) := by decide +kernel
theorem dX6_measure_94 : decode cX6_measure 94 = .ok (.iload_n 1, 1) := by decide +kernel
theorem dX6_measure_95 : decode cX6_measure 95 = .ok (.iload_n 3, 1) := by decide +kernel
theorem dX6_measure_96 : decode cX6_measure 96 = .ok (.iastore, 1) := by decide +kernel
theorem dX6_measure_97 : decode cX6_measure 97 = .ok (.iconst 1, 1) := by decide +kernel
theorem dX6_measure_98 : decode cX6_measure 98 = .ok (.ireturn, 1) := by decide +kernel
theorem dX6_of_0 : decode cX6_of 0 = .ok (.aload_n 0, 1) := by decide +kernel
theorem dX6_of_1 : decode cX6_of 1 = .ok (.iload_n 1, 1) := by decide +kernel
theorem dX6_of_2 : decode cX6_of 2 = .ok (.invokevirtual 156, 3) := by decide +kernel
theorem dX6_of_5 : decode cX6_of 5 = .ok (.ifCond .eq 27, 3) := by decide +kernel
theorem dX6_of_8 : decode cX6_of 8 = .ok (.iload_n 2, 1) := by decide +kernel
theorem dX6_of_9 : decode cX6_of 9 = .ok (.iconst 0, 1) := by decide +kernel
theorem dX6_of_10 : decode cX6_of 10 = .ok (.bipush 6, 2) := by decide +kernel
theorem dX6_of_12 : decode cX6_of 12 = .ok (.invokestatic 101, 3) := by decide +kernel
theorem dX6_of_15 : decode cX6_of 15 = .ok (.ifCond .eq 17, 3) := by decide +kernel
theorem dX6_of_18 : decode cX6_of 18 = .ok (.iload_n 2, 1) := by decide +kernel
theorem dX6_of_19 : decode cX6_of 19 = .ok (.iconst 3, 1) := by decide +kernel
theorem dX6_of_20 : decode cX6_of 20 = .ok (.if_icmp .le 15, 3) := by decide +kernel
theorem dX6_of_23 : decode cX6_of 23 = .ok (.aload_n 0, 1) := by decide +kernel
theorem dX6_of_24 : decode cX6_of 24 = .ok (.getfield 28, 3) := by decide +kernel
theorem dX6_of_27 : decode cX6_of 27 = .ok (.iload_n 1, 1) := by decide +kernel
theorem dX6_of_28 : decode cX6_of 28 = .ok (.iaload, 1) := by decide +kernel
theorem dX6_of_29 : decode cX6_of 29 = .ok (.ifCond .ge 6, 3) := by decide +kernel
theorem dX6_of_32 : decode cX6_of 32 = .ok (.ldc 147, 2) := by decide +kernel
theorem dX6_of_34 : decode cX6_of 34 = .ok (.ireturn, 1) := by decide +kernel
theorem dX6_of_35 : decode cX6_of 35 = .ok (.iload_n 2, 1) := by decide +kernel
theorem dX6_of_36 : decode cX6_of 36 = .ok (.iconst 4, 1) := by decide +kernel
theorem dX6_of_37 : decode cX6_of 37 = .ok (.if_icmp .ge 16, 3) := by decide +kernel
theorem dX6_of_40 : decode cX6_of 40 = .ok (.aload_n 0, 1) := by decide +kernel
theorem dX6_of_41 : decode cX6_of 41 = .ok (.getfield 22, 3) := by decide +kernel
theorem dX6_of_44 : decode cX6_of 44 = .ok (.iconst 4, 1) := by decide +kernel
theorem dX6_of_45 : decode cX6_of 45 = .ok (.iload_n 1, 1) := by decide +kernel
theorem dX6_of_46 : decode cX6_of 46 = .ok (.imul, 1) := by decide +kernel
theorem dX6_of_47 : decode cX6_of 47 = .ok (.iload_n 2, 1) := by decide +kernel
theorem dX6_of_48 : decode cX6_of 48 = .ok (.iadd, 1) := by decide +kernel
theorem dX6_of_49 : decode cX6_of 49 = .ok (.iaload, 1) := by decide +kernel
theorem dX6_of_50 : decode cX6_of 50 = .ok (.goto 37, 3) := by decide +kernel
theorem dX6_of_53 : decode cX6_of 53 = .ok (.iload_n 2, 1) := by decide +kernel
theorem dX6_of_54 : decode cX6_of 54 = .ok (.iconst 4, 1) := by decide +kernel
theorem dX6_of_55 : decode cX6_of 55 = .ok (.if_icmp .ne 12, 3) := by decide +kernel
theorem dX6_of_58 : decode cX6_of 58 = .ok (.aload_n 0, 1) := by decide +kernel
theorem dX6_of_59 : decode cX6_of 59 = .ok (.getfield 25, 3) := by decide +kernel
theorem dX6_of_62 : decode cX6_of 62 = .ok (.iload_n 1, 1) := by decide +kernel
theorem dX6_of_63 : decode cX6_of 63 = .ok (.iaload, 1) := by decide +kernel
theorem dX6_of_64 : decode cX6_of 64 = .ok (.goto 23, 3) := by decide +kernel
theorem dX6_of_67 : decode cX6_of 67 = .ok (.iload_n 2, 1) := by decide +kernel
theorem dX6_of_68 : decode cX6_of 68 = .ok (.iconst 5, 1) := by decide +kernel
theorem dX6_of_69 : decode cX6_of 69 = .ok (.if_icmp .ne 12, 3) := by decide +kernel
theorem dX6_of_72 : decode cX6_of 72 = .ok (.aload_n 0, 1) := by decide +kernel
theorem dX6_of_73 : decode cX6_of 73 = .ok (.getfield 28, 3) := by decide +kernel
theorem dX6_of_76 : decode cX6_of 76 = .ok (.iload_n 1, 1) := by decide +kernel
theorem dX6_of_77 : decode cX6_of 77 = .ok (.iaload, 1) := by decide +kernel
theorem dX6_of_78 : decode cX6_of 78 = .ok (.goto 9, 3) := by decide +kernel
theorem dX6_of_81 : decode cX6_of 81 = .ok (.aload_n 0, 1) := by decide +kernel
theorem dX6_of_82 : decode cX6_of 82 = .ok (.getfield 31, 3) := by decide +kernel
theorem dX6_of_85 : decode cX6_of 85 = .ok (.iload_n 1, 1) := by decide +kernel
theorem dX6_of_86 : decode cX6_of 86 = .ok (.iaload, 1) := by decide +kernel
theorem dX6_of_87 : decode cX6_of 87 = .ok (.ireturn, 1) := by decide +kernel
theorem dX6_isPerson_0 : decode cX6_isPerson 0 = .ok (.iload_n 0, 1) := by decide +kernel
theorem dX6_isPerson_1 : decode cX6_isPerson 1 = .ok (.iconst 0, 1) := by decide +kernel
theorem dX6_isPerson_2 : decode cX6_isPerson 2 = .ok (.bipush 7, 2) := by decide +kernel
theorem dX6_isPerson_4 : decode cX6_isPerson 4 = .ok (.invokestatic 101, 3) := by decide +kernel
theorem dX6_isPerson_7 : decode cX6_isPerson 7 = .ok (.ireturn, 1) := by decide +kernel
theorem dX6_isEntry_0 : decode cX6_isEntry 0 = .ok (.iload_n 1, 1) := by decide +kernel
theorem dX6_isEntry_1 : decode cX6_isEntry 1 = .ok (.iconst 0, 1) := by decide +kernel
theorem dX6_isEntry_2 : decode cX6_isEntry 2 = .ok (.aload_n 0, 1) := by decide +kernel
theorem dX6_isEntry_3 : decode cX6_isEntry 3 = .ok (.getfield 159, 3) := by decide +kernel
theorem dX6_isEntry_6 : decode cX6_isEntry 6 = .ok (.iconst 1, 1) := by decide +kernel
theorem dX6_isEntry_7 : decode cX6_isEntry 7 = .ok (.isub, 1) := by decide +kernel
theorem dX6_isEntry_8 : decode cX6_isEntry 8 = .ok (.invokestatic 101, 3) := by decide +kernel
theorem dX6_isEntry_11 : decode cX6_isEntry 11 = .ok (.ireturn, 1) := by decide +kernel
theorem dX6_enter_0 : decode cX6_enter 0 = .ok (.aload_n 0, 1) := by decide +kernel
theorem dX6_enter_1 : decode cX6_enter 1 = .ok (.getfield 34, 3) := by decide +kernel
theorem dX6_enter_4 : decode cX6_enter 4 = .ok (.aload_n 0, 1) := by decide +kernel
theorem dX6_enter_5 : decode cX6_enter 5 = .ok (.getfield 159, 3) := by decide +kernel
theorem dX6_enter_8 : decode cX6_enter 8 = .ok (.iload_n 1, 1) := by decide +kernel
theorem dX6_enter_9 : decode cX6_enter 9 = .ok (.iastore, 1) := by decide +kernel
theorem dX6_enter_10 : decode cX6_enter 10 = .ok (.aload_n 0, 1) := by decide +kernel
theorem dX6_enter_11 : decode cX6_enter 11 = .ok (.getfield 37, 3) := by decide +kernel
theorem dX6_enter_14 : decode cX6_enter 14 = .ok (.aload_n 0, 1) := by decide +kernel
theorem dX6_enter_15 : decode cX6_enter 15 = .ok (.getfield 159, 3) := by decide +kernel
theorem dX6_enter_18 : decode cX6_enter 18 = .ok (.iload_n 2, 1) := by decide +kernel
theorem dX6_enter_19 : decode cX6_enter 19 = .ok (.iastore, 1) := by decide +kernel
theorem dX6_enter_20 : decode cX6_enter 20 = .ok (.aload_n 0, 1) := by decide +kernel
theorem dX6_enter_21 : decode cX6_enter 21 = .ok (.getfield 40, 3) := by decide +kernel
theorem dX6_enter_24 : decode cX6_enter 24 = .ok (.aload_n 0, 1) := by decide +kernel
theorem dX6_enter_25 : decode cX6_enter 25 = .ok (.getfield 159, 3) := by decide +kernel
theorem dX6_enter_28 : decode cX6_enter 28 = .ok (.iload_n 3, 1) := by decide +kernel
theorem dX6_enter_29 : decode cX6_enter 29 = .ok (.iastore, 1) := by decide +kernel
theorem dX6_enter_30 : decode cX6_enter 30 = .ok (.aload_n 0, 1) := by decide +kernel
theorem dX6_enter_31 : decode cX6_enter 31 = .ok (.getfield 43, 3) := by decide +kernel
theorem dX6_enter_34 : decode cX6_enter 34 = .ok (.aload_n 0, 1) := by decide +kernel
theorem dX6_enter_35 : decode cX6_enter 35 = .ok (.getfield 159, 3) := by decide +kernel
theorem dX6_enter_38 : decode cX6_enter 38 = .ok (.iload 4, 2) := by decide +kernel
theorem dX6_enter_40 : decode cX6_enter 40 = .ok (.iastore, 1) := by decide +kernel
theorem dX6_enter_41 : decode cX6_enter 41 = .ok (.aload_n 0, 1) := by decide +kernel
theorem dX6_enter_42 : decode cX6_enter 42 = .ok (.getfield 46, 3) := by decide +kernel
theorem dX6_enter_45 : decode cX6_enter 45 = .ok (.aload_n 0, 1) := by decide +kernel
theorem dX6_enter_46 : decode cX6_enter 46 = .ok (.getfield 159, 3) := by decide +kernel
theorem dX6_enter_49 : decode cX6_enter 49 = .ok (.iload 5, 2) := by decide +kernel
theorem dX6_enter_51 : decode cX6_enter 51 = .ok (.iastore, 1) := by decide +kernel
theorem dX6_enter_52 : decode cX6_enter 52 = .ok (.aload_n 0, 1) := by decide +kernel
theorem dX6_enter_53 : decode cX6_enter 53 = .ok (.getfield 49, 3) := by decide +kernel
theorem dX6_enter_56 : decode cX6_enter 56 = .ok (.aload_n 0, 1) := by decide +kernel
theorem dX6_enter_57 : decode cX6_enter 57 = .ok (.getfield 159, 3) := by decide +kernel
theorem dX6_enter_60 : decode cX6_enter 60 = .ok (.iload 6, 2) := by decide +kernel
theorem dX6_enter_62 : decode cX6_enter 62 = .ok (.iastore, 1) := by decide +kernel
theorem dX6_enter_63 : decode cX6_enter 63 = .ok (.aload_n 0, 1) := by decide +kernel
theorem dX6_enter_64 : decode cX6_enter 64 = .ok (.getfield 52, 3) := by decide +kernel
theorem dX6_enter_67 : decode cX6_enter 67 = .ok (.aload_n 0, 1) := by decide +kernel
theorem dX6_enter_68 : decode cX6_enter 68 = .ok (.getfield 159, 3) := by decide +kernel
theorem dX6_enter_71 : decode cX6_enter 71 = .ok (.iconst 0, 1) := by decide +kernel
theorem dX6_enter_72 : decode cX6_enter 72 = .ok (.bastore, 1) := by decide +kernel
theorem dX6_enter_73 : decode cX6_enter 73 = .ok (.aload_n 0, 1) := by decide +kernel
theorem dX6_enter_74 : decode cX6_enter 74 = .ok (.dup, 1) := by decide +kernel
theorem dX6_enter_75 : decode cX6_enter 75 = .ok (.getfield 159, 3) := by decide +kernel
theorem dX6_enter_78 : decode cX6_enter 78 = .ok (.iconst 1, 1) := by decide +kernel
theorem dX6_enter_79 : decode cX6_enter 79 = .ok (.iadd, 1) := by decide +kernel
theorem dX6_enter_80 : decode cX6_enter 80 = .ok (.putfield 159, 3) := by decide +kernel
theorem dX6_enter_83 : decode cX6_enter 83 = .ok (.aload_n 0, 1) := by decide +kernel
theorem dX6_enter_84 : decode cX6_enter 84 = .ok (.getfield 159, 3) := by decide +kernel
theorem dX6_enter_87 : decode cX6_enter 87 = .ok (.iconst 1, 1) := by decide +kernel
theorem dX6_enter_88 : decode cX6_enter 88 = .ok (.isub, 1) := by decide +kernel
theorem dX6_enter_89 : decode cX6_enter 89 = .ok (.ireturn, 1) := by decide +kernel
theorem dX6_deal_0 : decode cX6_deal 0 = .ok (.aload_n 0, 1) := by decide +kernel
theorem dX6_deal_1 : decode cX6_deal 1 = .ok (.iload_n 2, 1) := by decide +kernel
theorem dX6_deal_2 : decode cX6_deal 2 = .ok (.invokevirtual 156, 3) := by decide +kernel
theorem dX6_deal_5 : decode cX6_deal 5 = .ok (.ifCond .eq 35, 3) := by decide +kernel
theorem dX6_deal_8 : decode cX6_deal 8 = .ok (.iload_n 3, 1) := by decide +kernel
theorem dX6_deal_9 : decode cX6_deal 9 = .ok (.invokestatic 162, 3) := by decide +kernel
theorem dX6_deal_12 : decode cX6_deal 12 = .ok (.ifCond .eq 28, 3) := by decide +kernel
theorem dX6_deal_15 : decode cX6_deal 15 = .ok (.iload 4, 2) := by decide +kernel
theorem dX6_deal_17 : decode cX6_deal 17 = .ok (.invokestatic 162, 3) := by decide +kernel
theorem dX6_deal_20 : decode cX6_deal 20 = .ok (.ifCond .eq 20, 3) := by decide +kernel
theorem dX6_deal_23 : decode cX6_deal 23 = .ok (.iload_n 3, 1) := by decide +kernel
theorem dX6_deal_24 : decode cX6_deal 24 = .ok (.iload 4, 2) := by decide +kernel
theorem dX6_deal_26 : decode cX6_deal 26 = .ok (.if_icmp .eq 14, 3) := by decide +kernel
theorem dX6_deal_29 : decode cX6_deal 29 = .ok (.iload 5, 2) := by decide +kernel
theorem dX6_deal_31 : decode cX6_deal 31 = .ok (.iconst 1, 1) := by decide +kernel
theorem dX6_deal_32 : decode cX6_deal 32 = .ok (.bipush 64, 2) := by decide +kernel
theorem dX6_deal_34 : decode cX6_deal 34 = .ok (.invokestatic 101, 3) := by decide +kernel
theorem dX6_deal_37 : decode cX6_deal 37 = .ok (.ifCond .ne 5, 3) := by decide +kernel
theorem dX6_deal_40 : decode cX6_deal 40 = .ok (.iconst (-1), 1) := by decide +kernel
theorem dX6_deal_41 : decode cX6_deal 41 = .ok (.ireturn, 1) := by decide +kernel
theorem dX6_deal_42 : decode cX6_deal 42 = .ok (.aload_n 0, 1) := by decide +kernel
theorem dX6_deal_43 : decode cX6_deal 43 = .ok (.getfield 159, 3) := by decide +kernel
theorem dX6_deal_46 : decode cX6_deal 46 = .ok (.bipush 60, 2) := by decide +kernel
theorem dX6_deal_48 : decode cX6_deal 48 = .ok (.if_icmp .ne 8, 3) := by decide +kernel
theorem dX6_deal_51 : decode cX6_deal 51 = .ok (.bipush (-2), 2) := by decide +kernel
theorem dX6_deal_53 : decode cX6_deal 53 = .ok (.goto 16, 3) := by decide +kernel
theorem dX6_deal_56 : decode cX6_deal 56 = .ok (.aload_n 0, 1) := by decide +kernel
theorem dX6_deal_57 : decode cX6_deal 57 = .ok (.iload_n 1, 1) := by decide +kernel
theorem dX6_deal_58 : decode cX6_deal 58 = .ok (.iload_n 2, 1) := by decide +kernel
theorem dX6_deal_59 : decode cX6_deal 59 = .ok (.iload_n 3, 1) := by decide +kernel
theorem dX6_deal_60 : decode cX6_deal 60 = .ok (.iload 4, 2) := by decide +kernel
theorem dX6_deal_62 : decode cX6_deal 62 = .ok (.iload 5, 2) := by decide +kernel
theorem dX6_deal_64 : decode cX6_deal 64 = .ok (.bipush (-4), 2) := by decide +kernel
theorem dX6_deal_66 : decode cX6_deal 66 = .ok (.invokevirtual 165, 3) := by decide +kernel
theorem dX6_deal_69 : decode cX6_deal 69 = .ok (.ireturn, 1) := by decide +kernel
theorem dX6_sell_0 : decode cX6_sell 0 = .ok (.aload_n 0, 1) := by decide +kernel
theorem dX6_sell_1 : decode cX6_sell 1 = .ok (.iconst 0, 1) := by decide +kernel
theorem dX6_sell_2 : decode cX6_sell 2 = .ok (.iload_n 1, 1) := by decide +kernel
theorem dX6_sell_3 : decode cX6_sell 3 = .ok (.iload_n 2, 1) := by decide +kernel
theorem dX6_sell_4 : decode cX6_sell 4 = .ok (.iload_n 3, 1) := by decide +kernel
theorem dX6_sell_5 : decode cX6_sell 5 = .ok (.iload 4, 2) := by decide +kernel
theorem dX6_sell_7 : decode cX6_sell 7 = .ok (.invokevirtual 169, 3) := by decide +kernel
theorem dX6_sell_10 : decode cX6_sell 10 = .ok (.ireturn, 1) := by decide +kernel
theorem dX6_pledge_0 : decode cX6_pledge 0 = .ok (.aload_n 0, 1) := by decide +kernel
theorem dX6_pledge_1 : decode cX6_pledge 1 = .ok (.iconst 1, 1) := by decide +kernel
theorem dX6_pledge_2 : decode cX6_pledge 2 = .ok (.iload_n 1, 1) := by decide +kernel
theorem dX6_pledge_3 : decode cX6_pledge 3 = .ok (.iload_n 2, 1) := by decide +kernel
theorem dX6_pledge_4 : decode cX6_pledge 4 = .ok (.iload_n 3, 1) := by decide +kernel
theorem dX6_pledge_5 : decode cX6_pledge 5 = .ok (.iload 4, 2) := by decide +kernel
theorem dX6_pledge_7 : decode cX6_pledge 7 = .ok (.invokevirtual 169, 3) := by decide +kernel
theorem dX6_pledge_10 : decode cX6_pledge 10 = .ok (.ireturn, 1) := by decide +kernel
theorem dX6_redeem_0 : decode cX6_redeem 0 = .ok (.aload_n 0, 1) := by decide +kernel
theorem dX6_redeem_1 : decode cX6_redeem 1 = .ok (.iload_n 1, 1) := by decide +kernel
theorem dX6_redeem_2 : decode cX6_redeem 2 = .ok (.invokevirtual 172, 3) := by decide +kernel
theorem dX6_redeem_5 : decode cX6_redeem 5 = .ok (.ifCond .ne 5, 3) := by decide +kernel
theorem dX6_redeem_8 : decode cX6_redeem 8 = .ok (.iconst (-1), 1) := by decide +kernel
theorem dX6_redeem_9 : decode cX6_redeem 9 = .ok (.ireturn, 1) := by decide +kernel
theorem dX6_redeem_10 : decode cX6_redeem 10 = .ok (.aload_n 0, 1) := by decide +kernel
theorem dX6_redeem_11 : decode cX6_redeem 11 = .ok (.getfield 34, 3) := by decide +kernel
theorem dX6_redeem_14 : decode cX6_redeem 14 = .ok (.iload_n 1, 1) := by decide +kernel
theorem dX6_redeem_15 : decode cX6_redeem 15 = .ok (.iaload, 1) := by decide +kernel
theorem dX6_redeem_16 : decode cX6_redeem 16 = .ok (.iconst 1, 1) := by decide +kernel
theorem dX6_redeem_17 : decode cX6_redeem 17 = .ok (.if_icmp .eq 6, 3) := by decide +kernel
theorem dX6_redeem_20 : decode cX6_redeem 20 = .ok (.bipush (-5), 2) := by decide +kernel
theorem dX6_redeem_22 : decode cX6_redeem 22 = .ok (.ireturn, 1) := by decide +kernel
theorem dX6_redeem_23 : decode cX6_redeem 23 = .ok (.aload_n 0, 1) := by decide +kernel
theorem dX6_redeem_24 : decode cX6_redeem 24 = .ok (.getfield 159, 3) := by decide +kernel
theorem dX6_redeem_27 : decode cX6_redeem 27 = .ok (.bipush 60, 2) := by decide +kernel
theorem dX6_redeem_29 : decode cX6_redeem 29 = .ok (.if_icmp .ne 8, 3) := by decide +kernel
theorem dX6_redeem_32 : decode cX6_redeem 32 = .ok (.bipush (-2), 2) := by decide +kernel
theorem dX6_redeem_34 : decode cX6_redeem 34 = .ok (.goto 33, 3) := by decide +kernel
theorem dX6_redeem_37 : decode cX6_redeem 37 = .ok (.aload_n 0, 1) := by decide +kernel
theorem dX6_redeem_38 : decode cX6_redeem 38 = .ok (.iconst 2, 1) := by decide +kernel
theorem dX6_redeem_39 : decode cX6_redeem 39 = .ok (.aload_n 0, 1) := by decide +kernel
theorem dX6_redeem_40 : decode cX6_redeem 40 = .ok (.getfield 37, 3) := by decide +kernel
theorem dX6_redeem_43 : decode cX6_redeem 43 = .ok (.iload_n 1, 1) := by decide +kernel
theorem dX6_redeem_44 : decode cX6_redeem 44 = .ok (.iaload, 1) := by decide +kernel
theorem dX6_redeem_45 : decode cX6_redeem 45 = .ok (.aload_n 0, 1) := by decide +kernel
theorem dX6_redeem_46 : decode cX6_redeem 46 = .ok (.getfield 40, 3) := by decide +kernel
theorem dX6_redeem_49 : decode cX6_redeem 49 = .ok (.iload_n 1, 1) := by decide +kernel
theorem dX6_redeem_50 : decode cX6_redeem 50 = .ok (.iaload, 1) := by decide +kernel
theorem dX6_redeem_51 : decode cX6_redeem 51 = .ok (.aload_n 0, 1) := by decide +kernel
theorem dX6_redeem_52 : decode cX6_redeem 52 = .ok (.getfield 43, 3) := by decide +kernel
theorem dX6_redeem_55 : decode cX6_redeem 55 = .ok (.iload_n 1, 1) := by decide +kernel
theorem dX6_redeem_56 : decode cX6_redeem 56 = .ok (.iaload, 1) := by decide +kernel
theorem dX6_redeem_57 : decode cX6_redeem 57 = .ok (.aload_n 0, 1) := by decide +kernel
theorem dX6_redeem_58 : decode cX6_redeem 58 = .ok (.getfield 46, 3) := by decide +kernel
theorem dX6_redeem_61 : decode cX6_redeem 61 = .ok (.iload_n 1, 1) := by decide +kernel
theorem dX6_redeem_62 : decode cX6_redeem 62 = .ok (.iaload, 1) := by decide +kernel
theorem dX6_redeem_63 : decode cX6_redeem 63 = .ok (.iload_n 1, 1) := by decide +kernel
theorem dX6_redeem_64 : decode cX6_redeem 64 = .ok (.invokevirtual 165, 3) := by decide +kernel
theorem dX6_redeem_67 : decode cX6_redeem 67 = .ok (.ireturn, 1) := by decide +kernel
theorem dX6_forge_0 : decode cX6_forge 0 = .ok (.aload_n 0, 1) := by decide +kernel
theorem dX6_forge_1 : decode cX6_forge 1 = .ok (.iload_n 1, 1) := by decide +kernel
theorem dX6_forge_2 : decode cX6_forge 2 = .ok (.invokevirtual 172, 3) := by decide +kernel
theorem dX6_forge_5 : decode cX6_forge 5 = .ok (.ifCond .ne 5, 3) := by decide +kernel
theorem dX6_forge_8 : decode cX6_forge 8 = .ok (.iconst (-1), 1) := by decide +kernel
theorem dX6_forge_9 : decode cX6_forge 9 = .ok (.ireturn, 1) := by decide +kernel
theorem dX6_forge_10 : decode cX6_forge 10 = .ok (.aload_n 0, 1) := by decide +kernel
theorem dX6_forge_11 : decode cX6_forge 11 = .ok (.getfield 52, 3) := by decide +kernel
theorem dX6_forge_14 : decode cX6_forge 14 = .ok (.iload_n 1, 1) := by decide +kernel
theorem dX6_forge_15 : decode cX6_forge 15 = .ok (.baload, 1) := by decide +kernel
theorem dX6_forge_16 : decode cX6_forge 16 = .ok (.ifCond .eq 6, 3) := by decide +kernel
theorem dX6_forge_19 : decode cX6_forge 19 = .ok (.bipush (-3), 2) := by decide +kernel
theorem dX6_forge_21 : decode cX6_forge 21 = .ok (.ireturn, 1) := by decide +kernel
theorem dX6_forge_22 : decode cX6_forge 22 = .ok (.aload_n 0, 1) := by decide +kernel
theorem dX6_forge_23 : decode cX6_forge 23 = .ok (.getfield 52, 3) := by decide +kernel
theorem dX6_forge_26 : decode cX6_forge 26 = .ok (.iload_n 1, 1) := by decide +kernel
theorem dX6_forge_27 : decode cX6_forge 27 = .ok (.iconst 1, 1) := by decide +kernel
theorem dX6_forge_28 : decode cX6_forge 28 = .ok (.bastore, 1) := by decide +kernel
theorem dX6_forge_29 : decode cX6_forge 29 = .ok (.iconst 1, 1) := by decide +kernel
theorem dX6_forge_30 : decode cX6_forge 30 = .ok (.ireturn, 1) := by decide +kernel
theorem dX6_goThrough_0 : decode cX6_goThrough 0 = .ok (.iconst 0, 1) := by decide +kernel
theorem dX6_goThrough_1 : decode cX6_goThrough 1 = .ok (.istore_n 1, 1) := by decide +kernel
theorem dX6_goThrough_2 : decode cX6_goThrough 2 = .ok (.iload_n 1, 1) := by decide +kernel
theorem dX6_goThrough_3 : decode cX6_goThrough 3 = .ok (.bipush 40, 2) := by decide +kernel
theorem dX6_goThrough_5 : decode cX6_goThrough 5 = .ok (.if_icmp .ge 35, 3) := by decide +kernel
theorem dX6_goThrough_8 : decode cX6_goThrough 8 = .ok (.aload_n 0, 1) := by decide +kernel
theorem dX6_goThrough_9 : decode cX6_goThrough 9 = .ok (.getfield 71, 3) := by decide +kernel
theorem dX6_goThrough_12 : decode cX6_goThrough 12 = .ok (.iload_n 1, 1) := by decide +kernel
theorem dX6_goThrough_13 : decode cX6_goThrough 13 = .ok (.iload_n 1, 1) := by decide +kernel
theorem dX6_goThrough_14 : decode cX6_goThrough 14 = .ok (.bipush 8, 2) := by decide +kernel
theorem dX6_goThrough_16 : decode cX6_goThrough 16 = .ok (.irem, 1) := by decide +kernel
theorem dX6_goThrough_17 : decode cX6_goThrough 17 = .ok (.ifCond .ne 8, 3) := by decide +kernel
theorem dX6_goThrough_20 : decode cX6_goThrough 20 = .ok (.bipush 64, 2) := by decide +kernel
theorem dX6_goThrough_22 : decode cX6_goThrough 22 = .ok (.goto 4, 3) := by decide +kernel
theorem dX6_goThrough_25 : decode cX6_goThrough 25 = .ok (.iconst 0, 1) := by decide +kernel
theorem dX6_goThrough_26 : decode cX6_goThrough 26 = .ok (.iastore, 1) := by decide +kernel
theorem dX6_goThrough_27 : decode cX6_goThrough 27 = .ok (.aload_n 0, 1) := by decide +kernel
theorem dX6_goThrough_28 : decode cX6_goThrough 28 = .ok (.getfield 74, 3) := by decide +kernel
theorem dX6_goThrough_31 : decode cX6_goThrough 31 = .ok (.iload_n 1, 1) := by decide +kernel
theorem dX6_goThrough_32 : decode cX6_goThrough 32 = .ok (.iconst 0, 1) := by decide +kernel
theorem dX6_goThrough_33 : decode cX6_goThrough 33 = .ok (.iastore, 1) := by decide +kernel
theorem dX6_goThrough_34 : decode cX6_goThrough 34 = .ok (.iinc 1 1, 3) := by decide +kernel
theorem dX6_goThrough_37 : decode cX6_goThrough 37 = .ok (.goto (-35), 3) := by decide +kernel
theorem dX6_goThrough_40 : decode cX6_goThrough 40 = .ok (.iconst 0, 1) := by decide +kernel
theorem dX6_goThrough_41 : decode cX6_goThrough 41 = .ok (.istore_n 1, 1) := by decide +kernel
theorem dX6_goThrough_42 : decode cX6_goThrough 42 = .ok (.iload_n 1, 1) := by decide +kernel
theorem dX6_goThrough_43 : decode cX6_goThrough 43 = .ok (.aload_n 0, 1) := by decide +kernel
theorem dX6_goThrough_44 : decode cX6_goThrough 44 = .ok (.getfield 159, 3) := by decide +kernel
theorem dX6_goThrough_47 : decode cX6_goThrough 47 = .ok (.if_icmp .ge 37, 3) := by decide +kernel
theorem dX6_goThrough_50 : decode cX6_goThrough 50 = .ok (.aload_n 0, 1) := by decide +kernel
theorem dX6_goThrough_51 : decode cX6_goThrough 51 = .ok (.getfield 77, 3) := by decide +kernel
theorem dX6_goThrough_54 : decode cX6_goThrough 54 = .ok (.iload_n 1, 1) := by decide +kernel
theorem dX6_goThrough_55 : decode cX6_goThrough 55 = .ok (.iconst 0, 1) := by decide +kernel
theorem dX6_goThrough_56 : decode cX6_goThrough 56 = .ok (.bastore, 1) := by decide +kernel
theorem dX6_goThrough_57 : decode cX6_goThrough 57 = .ok (.aload_n 0, 1) := by decide +kernel
theorem dX6_goThrough_58 : decode cX6_goThrough 58 = .ok (.getfield 80, 3) := by decide +kernel
theorem dX6_goThrough_61 : decode cX6_goThrough 61 = .ok (.iload_n 1, 1) := by decide +kernel
theorem dX6_goThrough_62 : decode cX6_goThrough 62 = .ok (.iconst 0, 1) := by decide +kernel
theorem dX6_goThrough_63 : decode cX6_goThrough 63 = .ok (.bastore, 1) := by decide +kernel
theorem dX6_goThrough_64 : decode cX6_goThrough 64 = .ok (.aload_n 0, 1) := by decide +kernel
theorem dX6_goThrough_65 : decode cX6_goThrough 65 = .ok (.getfield 52, 3) := by decide +kernel
theorem dX6_goThrough_68 : decode cX6_goThrough 68 = .ok (.iload_n 1, 1) := by decide +kernel
theorem dX6_goThrough_69 : decode cX6_goThrough 69 = .ok (.baload, 1) := by decide +kernel
theorem dX6_goThrough_70 : decode cX6_goThrough 70 = .ok (.ifCond .ne 8, 3) := by decide +kernel
theorem dX6_goThrough_73 : decode cX6_goThrough 73 = .ok (.aload_n 0, 1) := by decide +kernel
theorem dX6_goThrough_74 : decode cX6_goThrough 74 = .ok (.iload_n 1, 1) := by decide +kernel
theorem dX6_goThrough_75 : decode cX6_goThrough 75 = .ok (.invokevirtual 175, 3) := by decide +kernel
theorem dX6_goThrough_78 : decode cX6_goThrough 78 = .ok (.iinc 1 1, 3) := by decide +kernel
theorem dX6_goThrough_81 : decode cX6_goThrough 81 = .ok (.goto (-39), 3) := by decide +kernel
theorem dX6_goThrough_84 : decode cX6_goThrough 84 = .ok (.return_, 1) := by decide +kernel
theorem dX6_does_0 : decode cX6_does 0 = .ok (.bipush 8, 2) := by decide +kernel
theorem dX6_does_2 : decode cX6_does 2 = .ok (.aload_n 0, 1) := by decide +kernel
theorem dX6_does_3 : decode cX6_does 3 = .ok (.getfield 37, 3) := by decide +kernel
theorem dX6_does_6 : decode cX6_does 6 = .ok (.iload_n 1, 1) := by decide +kernel
theorem dX6_does_7 : decode cX6_does 7 = .ok (.iaload, 1) := by decide +kernel
theorem dX6_does_8 : decode cX6_does 8 = .ok (.imul, 1) := by decide +kernel
theorem dX6_does_9 : decode cX6_does 9 = .ok (.aload_n 0, 1) := by decide +kernel
theorem dX6_does_10 : decode cX6_does 10 = .ok (.getfield 40, 3) := by decide +kernel
theorem dX6_does_13 : decode cX6_does 13 = .ok (.iload_n 1, 1) := by decide +kernel
theorem dX6_does_14 : decode cX6_does 14 = .ok (.iaload, 1) := by decide +kernel
theorem dX6_does_15 : decode cX6_does 15 = .ok (.iadd, 1) := by decide +kernel
theorem dX6_does_16 : decode cX6_does 16 = .ok (.istore_n 2, 1) := by decide +kernel
theorem dX6_does_17 : decode cX6_does 17 = .ok (.aload_n 0, 1) := by decide +kernel
theorem dX6_does_18 : decode cX6_does 18 = .ok (.getfield 46, 3) := by decide +kernel
theorem dX6_does_21 : decode cX6_does 21 = .ok (.iload_n 1, 1) := by decide +kernel
theorem dX6_does_22 : decode cX6_does 22 = .ok (.iaload, 1) := by decide +kernel
theorem dX6_does_23 : decode cX6_does 23 = .ok (.istore_n 3, 1) := by decide +kernel
theorem dX6_does_24 : decode cX6_does 24 = .ok (.aload_n 0, 1) := by decide +kernel
theorem dX6_does_25 : decode cX6_does 25 = .ok (.getfield 34, 3) := by decide +kernel
theorem dX6_does_28 : decode cX6_does 28 = .ok (.iload_n 1, 1) := by decide +kernel
theorem dX6_does_29 : decode cX6_does 29 = .ok (.iaload, 1) := by decide +kernel
theorem dX6_does_30 : decode cX6_does 30 = .ok (.iconst 2, 1) := by decide +kernel
theorem dX6_does_31 : decode cX6_does 31 = .ok (.if_icmp .ne 61, 3) := by decide +kernel
theorem dX6_does_34 : decode cX6_does 34 = .ok (.aload_n 0, 1) := by decide +kernel
theorem dX6_does_35 : decode cX6_does 35 = .ok (.getfield 49, 3) := by decide +kernel
theorem dX6_does_38 : decode cX6_does 38 = .ok (.iload_n 1, 1) := by decide +kernel
theorem dX6_does_39 : decode cX6_does 39 = .ok (.iaload, 1) := by decide +kernel
theorem dX6_does_40 : decode cX6_does 40 = .ok (.istore 4, 2) := by decide +kernel
theorem dX6_does_42 : decode cX6_does 42 = .ok (.aload_n 0, 1) := by decide +kernel
theorem dX6_does_43 : decode cX6_does 43 = .ok (.getfield 80, 3) := by decide +kernel
theorem dX6_does_46 : decode cX6_does 46 = .ok (.iload_n 1, 1) := by decide +kernel
theorem dX6_does_47 : decode cX6_does 47 = .ok (.aload_n 0, 1) := by decide +kernel
theorem dX6_does_48 : decode cX6_does 48 = .ok (.getfield 77, 3) := by decide +kernel
theorem dX6_does_51 : decode cX6_does 51 = .ok (.iload 4, 2) := by decide +kernel
theorem dX6_does_53 : decode cX6_does 53 = .ok (.baload, 1) := by decide +kernel
theorem dX6_does_54 : decode cX6_does 54 = .ok (.ifCond .ne 7, 3) := by decide +kernel
theorem dX6_does_57 : decode cX6_does 57 = .ok (.iconst 1, 1) := by decide +kernel
theorem dX6_does_58 : decode cX6_does 58 = .ok (.goto 4, 3) := by decide +kernel
theorem dX6_does_61 : decode cX6_does 61 = .ok (.iconst 0, 1) := by decide +kernel
theorem dX6_does_62 : decode cX6_does 62 = .ok (.bastore, 1) := by decide +kernel
theorem dX6_does_63 : decode cX6_does 63 = .ok (.aload_n 0, 1) := by decide +kernel
theorem dX6_does_64 : decode cX6_does 64 = .ok (.getfield 77, 3) := by decide +kernel
theorem dX6_does_67 : decode cX6_does 67 = .ok (.iload 4, 2) := by decide +kernel
theorem dX6_does_69 : decode cX6_does 69 = .ok (.baload, 1) := by decide +kernel
theorem dX6_does_70 : decode cX6_does 70 = .ok (.ifCond .eq 21, 3) := by decide +kernel
theorem dX6_does_73 : decode cX6_does 73 = .ok (.aload_n 0, 1) := by decide +kernel
theorem dX6_does_74 : decode cX6_does 74 = .ok (.getfield 77, 3) := by decide +kernel
theorem dX6_does_77 : decode cX6_does 77 = .ok (.iload 4, 2) := by decide +kernel
theorem dX6_does_79 : decode cX6_does 79 = .ok (.iconst 0, 1) := by decide +kernel
theorem dX6_does_80 : decode cX6_does 80 = .ok (.bastore, 1) := by decide +kernel
theorem dX6_does_81 : decode cX6_does 81 = .ok (.aload_n 0, 1) := by decide +kernel
theorem dX6_does_82 : decode cX6_does 82 = .ok (.getfield 74, 3) := by decide +kernel
theorem dX6_does_85 : decode cX6_does 85 = .ok (.iload_n 2, 1) := by decide +kernel
theorem dX6_does_86 : decode cX6_does 86 = .ok (.dup2, 1) := by decide +kernel
theorem dX6_does_87 : decode cX6_does 87 = .ok (.iaload, 1) := by decide +kernel
theorem dX6_does_88 : decode cX6_does 88 = .ok (.iload_n 3, 1) := by decide +kernel
theorem dX6_does_89 : decode cX6_does 89 = .ok (.isub, 1) := by decide +kernel
theorem dX6_does_90 : decode cX6_does 90 = .ok (.iastore, 1) := by decide +kernel
theorem dX6_does_91 : decode cX6_does 91 = .ok (.return_, 1) := by decide +kernel
theorem dX6_does_92 : decode cX6_does 92 = .ok (.aload_n 0, 1) := by decide +kernel
theorem dX6_does_93 : decode cX6_does 93 = .ok (.getfield 71, 3) := by decide +kernel
theorem dX6_does_96 : decode cX6_does 96 = .ok (.iload_n 2, 1) := by decide +kernel
theorem dX6_does_97 : decode cX6_does 97 = .ok (.iaload, 1) := by decide +kernel
theorem dX6_does_98 : decode cX6_does 98 = .ok (.aload_n 0, 1) := by decide +kernel
theorem dX6_does_99 : decode cX6_does 99 = .ok (.getfield 74, 3) := by decide +kernel
theorem dX6_does_102 : decode cX6_does 102 = .ok (.iload_n 2, 1) := by decide +kernel
theorem dX6_does_103 : decode cX6_does 103 = .ok (.iaload, 1) := by decide +kernel
theorem dX6_does_104 : decode cX6_does 104 = .ok (.isub, 1) := by decide +kernel
theorem dX6_does_105 : decode cX6_does 105 = .ok (.iload_n 3, 1) := by decide +kernel
theorem dX6_does_106 : decode cX6_does 106 = .ok (.if_icmp .ge 13, 3) := by decide +kernel
theorem dX6_does_109 : decode cX6_does 109 = .ok (.aload_n 0, 1) := by decide +kernel
theorem dX6_does_110 : decode cX6_does 110 = .ok (.getfield 80, 3) := by decide +kernel
theorem dX6_does_113 : decode cX6_does 113 = .ok (.iload_n 1, 1) := by decide +kernel
theorem dX6_does_114 : decode cX6_does 114 = .ok (.iconst 1, 1) := by decide +kernel
theorem dX6_does_115 : decode cX6_does 115 = .ok (.bastore, 1) := by decide +kernel
theorem dX6_does_116 : decode cX6_does 116 = .ok (.goto 67, 3) := by decide +kernel
theorem dX6_does_119 : decode cX6_does 119 = .ok (.aload_n 0, 1) := by decide +kernel
theorem dX6_does_120 : decode cX6_does 120 = .ok (.getfield 34, 3) := by decide +kernel
theorem dX6_does_123 : decode cX6_does 123 = .ok (.iload_n 1, 1) := by decide +kernel
theorem dX6_does_124 : decode cX6_does 124 = .ok (.iaload, 1) := by decide +kernel
theorem dX6_does_125 : decode cX6_does 125 = .ok (.ifCond .ne 41, 3) := by decide +kernel
theorem dX6_does_128 : decode cX6_does 128 = .ok (.aload_n 0, 1) := by decide +kernel
theorem dX6_does_129 : decode cX6_does 129 = .ok (.getfield 71, 3) := by decide +kernel
theorem dX6_does_132 : decode cX6_does 132 = .ok (.iload_n 2, 1) := by decide +kernel
theorem dX6_does_133 : decode cX6_does 133 = .ok (.dup2, 1) := by decide +kernel
theorem dX6_does_134 : decode cX6_does 134 = .ok (.iaload, 1) := by decide +kernel
theorem dX6_does_135 : decode cX6_does 135 = .ok (.iload_n 3, 1) := by decide +kernel
theorem dX6_does_136 : decode cX6_does 136 = .ok (.isub, 1) := by decide +kernel
theorem dX6_does_137 : decode cX6_does 137 = .ok (.iastore, 1) := by decide +kernel
theorem dX6_does_138 : decode cX6_does 138 = .ok (.aload_n 0, 1) := by decide +kernel
theorem dX6_does_139 : decode cX6_does 139 = .ok (.getfield 71, 3) := by decide +kernel
theorem dX6_does_142 : decode cX6_does 142 = .ok (.bipush 8, 2) := by decide +kernel
theorem dX6_does_144 : decode cX6_does 144 = .ok (.aload_n 0, 1) := by decide +kernel
theorem dX6_does_145 : decode cX6_does 145 = .ok (.getfield 37, 3) := by decide +kernel
theorem dX6_does_148 : decode cX6_does 148 = .ok (.iload_n 1, 1) := by decide +kernel
theorem dX6_does_149 : decode cX6_does 149 = .ok (.iaload, 1) := by decide +kernel
theorem dX6_does_150 : decode cX6_does 150 = .ok (.imul, 1) := by decide +kernel
theorem dX6_does_151 : decode cX6_does 151 = .ok (.aload_n 0, 1) := by decide +kernel
theorem dX6_does_152 : decode cX6_does 152 = .ok (.getfield 43, 3) := by decide +kernel
theorem dX6_does_155 : decode cX6_does 155 = .ok (.iload_n 1, 1) := by decide +kernel
theorem dX6_does_156 : decode cX6_does 156 = .ok (.iaload, 1) := by decide +kernel
theorem dX6_does_157 : decode cX6_does 157 = .ok (.iadd, 1) := by decide +kernel
theorem dX6_does_158 : decode cX6_does 158 = .ok (.dup2, 1) := by decide +kernel
theorem dX6_does_159 : decode cX6_does 159 = .ok (.iaload, 1) := by decide +kernel
theorem dX6_does_160 : decode cX6_does 160 = .ok (.iload_n 3, 1) := by decide +kernel
theorem dX6_does_161 : decode cX6_does 161 = .ok (.iadd, 1) := by decide +kernel
theorem dX6_does_162 : decode cX6_does 162 = .ok (.iastore, 1) := by decide +kernel
theorem dX6_does_163 : decode cX6_does 163 = .ok (.goto 20, 3) := by decide +kernel
theorem dX6_does_166 : decode cX6_does 166 = .ok (.aload_n 0, 1) := by decide +kernel
theorem dX6_does_167 : decode cX6_does 167 = .ok (.getfield 77, 3) := by decide +kernel
theorem dX6_does_170 : decode cX6_does 170 = .ok (.iload_n 1, 1) := by decide +kernel
theorem dX6_does_171 : decode cX6_does 171 = .ok (.iconst 1, 1) := by decide +kernel
theorem dX6_does_172 : decode cX6_does 172 = .ok (.bastore, 1) := by decide +kernel
theorem dX6_does_173 : decode cX6_does 173 = .ok (.aload_n 0, 1) := by decide +kernel
theorem dX6_does_174 : decode cX6_does 174 = .ok (.getfield 74, 3) := by decide +kernel
theorem dX6_does_177 : decode cX6_does 177 = .ok (.iload_n 2, 1) := by decide +kernel
theorem dX6_does_178 : decode cX6_does 178 = .ok (.dup2, 1) := by decide +kernel
theorem dX6_does_179 : decode cX6_does 179 = .ok (.iaload, 1) := by decide +kernel
theorem dX6_does_180 : decode cX6_does 180 = .ok (.iload_n 3, 1) := by decide +kernel
theorem dX6_does_181 : decode cX6_does 181 = .ok (.iadd, 1) := by decide +kernel
theorem dX6_does_182 : decode cX6_does 182 = .ok (.iastore, 1) := by decide +kernel
theorem dX6_does_183 : decode cX6_does 183 = .ok (.return_, 1) := by decide +kernel
theorem dX6_rankOf_0 : decode cX6_rankOf 0 = .ok (.aload_n 0, 1) := by decide +kernel
theorem dX6_rankOf_1 : decode cX6_rankOf 1 = .ok (.getfield 77, 3) := by decide +kernel
theorem dX6_rankOf_4 : decode cX6_rankOf 4 = .ok (.iload_n 1, 1) := by decide +kernel
theorem dX6_rankOf_5 : decode cX6_rankOf 5 = .ok (.baload, 1) := by decide +kernel
theorem dX6_rankOf_6 : decode cX6_rankOf 6 = .ok (.ifCond .ne 6, 3) := by decide +kernel
theorem dX6_rankOf_9 : decode cX6_rankOf 9 = .ok (.bipush (-4), 2) := by decide +kernel
theorem dX6_rankOf_11 : decode cX6_rankOf 11 = .ok (.ireturn, 1) := by decide +kernel
theorem dX6_rankOf_12 : decode cX6_rankOf 12 = .ok (.iconst 0, 1) := by decide +kernel
theorem dX6_rankOf_13 : decode cX6_rankOf 13 = .ok (.istore_n 2, 1) := by decide +kernel
theorem dX6_rankOf_14 : decode cX6_rankOf 14 = .ok (.iconst 0, 1) := by decide +kernel
theorem dX6_rankOf_15 : decode cX6_rankOf 15 = .ok (.istore_n 3, 1) := by decide +kernel
theorem dX6_rankOf_16 : decode cX6_rankOf 16 = .ok (.iload_n 3, 1) := by decide +kernel
theorem dX6_rankOf_17 : decode cX6_rankOf 17 = .ok (.iload_n 1, 1) := by decide +kernel
theorem dX6_rankOf_18 : decode cX6_rankOf 18 = .ok (.if_icmp .ge 56, 3) := by decide +kernel
theorem dX6_rankOf_21 : decode cX6_rankOf 21 = .ok (.iload_n 2, 1) := by decide +kernel
theorem dX6_rankOf_22 : decode cX6_rankOf 22 = .ok (.aload_n 0, 1) := by decide +kernel
theorem dX6_rankOf_23 : decode cX6_rankOf 23 = .ok (.getfield 77, 3) := by decide +kernel
theorem dX6_rankOf_26 : decode cX6_rankOf 26 = .ok (.iload_n 3, 1) := by decide +kernel
theorem dX6_rankOf_27 : decode cX6_rankOf 27 = .ok (.baload, 1) := by decide +kernel
theorem dX6_rankOf_28 : decode cX6_rankOf 28 = .ok (.ifCond .eq 37, 3) := by decide +kernel
theorem dX6_rankOf_31 : decode cX6_rankOf 31 = .ok (.aload_n 0, 1) := by decide +kernel
theorem dX6_rankOf_32 : decode cX6_rankOf 32 = .ok (.getfield 37, 3) := by decide +kernel
theorem dX6_rankOf_35 : decode cX6_rankOf 35 = .ok (.iload_n 3, 1) := by decide +kernel
theorem dX6_rankOf_36 : decode cX6_rankOf 36 = .ok (.iaload, 1) := by decide +kernel
theorem dX6_rankOf_37 : decode cX6_rankOf 37 = .ok (.aload_n 0, 1) := by decide +kernel
theorem dX6_rankOf_38 : decode cX6_rankOf 38 = .ok (.getfield 37, 3) := by decide +kernel
theorem dX6_rankOf_41 : decode cX6_rankOf 41 = .ok (.iload_n 1, 1) := by decide +kernel
theorem dX6_rankOf_42 : decode cX6_rankOf 42 = .ok (.iaload, 1) := by decide +kernel
theorem dX6_rankOf_43 : decode cX6_rankOf 43 = .ok (.if_icmp .ne 22, 3) := by decide +kernel
theorem dX6_rankOf_46 : decode cX6_rankOf 46 = .ok (.aload_n 0, 1) := by decide +kernel
theorem dX6_rankOf_47 : decode cX6_rankOf 47 = .ok (.getfield 40, 3) := by decide +kernel
theorem dX6_rankOf_50 : decode cX6_rankOf 50 = .ok (.iload_n 3, 1) := by decide +kernel
theorem dX6_rankOf_51 : decode cX6_rankOf 51 = .ok (.iaload, 1) := by decide +kernel
theorem dX6_rankOf_52 : decode cX6_rankOf 52 = .ok (.aload_n 0, 1) := by decide +kernel
theorem dX6_rankOf_53 : decode cX6_rankOf 53 = .ok (.getfield 40, 3) := by decide +kernel
theorem dX6_rankOf_56 : decode cX6_rankOf 56 = .ok (.iload_n 1, 1) := by decide +kernel
theorem dX6_rankOf_57 : decode cX6_rankOf 57 = .ok (.iaload, 1) := by decide +kernel
theorem dX6_rankOf_58 : decode cX6_rankOf 58 = .ok (.if_icmp .ne 7, 3) := by decide +kernel
theorem dX6_rankOf_61 : decode cX6_rankOf 61 = .ok (.iconst 1, 1) := by decide +kernel
theorem dX6_rankOf_62 : decode cX6_rankOf 62 = .ok (.goto 4, 3) := by decide +kernel
theorem dX6_rankOf_65 : decode cX6_rankOf 65 = .ok (.iconst 0, 1) := by decide +kernel
theorem dX6_rankOf_66 : decode cX6_rankOf 66 = .ok (.iadd, 1) := by decide +kernel
theorem dX6_rankOf_67 : decode cX6_rankOf 67 = .ok (.istore_n 2, 1) := by decide +kernel
theorem dX6_rankOf_68 : decode cX6_rankOf 68 = .ok (.iinc 3 1, 3) := by decide +kernel
theorem dX6_rankOf_71 : decode cX6_rankOf 71 = .ok (.goto (-55), 3) := by decide +kernel
theorem dX6_rankOf_74 : decode cX6_rankOf 74 = .ok (.iload_n 2, 1) := by decide +kernel
theorem dX6_rankOf_75 : decode cX6_rankOf 75 = .ok (.ireturn, 1) := by decide +kernel
theorem dX6_entry_0 : decode cX6_entry 0 = .ok (.aload_n 0, 1) := by decide +kernel
theorem dX6_entry_1 : decode cX6_entry 1 = .ok (.iload_n 1, 1) := by decide +kernel
theorem dX6_entry_2 : decode cX6_entry 2 = .ok (.invokevirtual 172, 3) := by decide +kernel
theorem dX6_entry_5 : decode cX6_entry 5 = .ok (.ifCond .ne 5, 3) := by decide +kernel
theorem dX6_entry_8 : decode cX6_entry 8 = .ok (.iconst (-1), 1) := by decide +kernel
theorem dX6_entry_9 : decode cX6_entry 9 = .ok (.ireturn, 1) := by decide +kernel
theorem dX6_entry_10 : decode cX6_entry 10 = .ok (.aload_n 0, 1) := by decide +kernel
theorem dX6_entry_11 : decode cX6_entry 11 = .ok (.invokevirtual 178, 3) := by decide +kernel
theorem dX6_entry_14 : decode cX6_entry 14 = .ok (.iload_n 2, 1) := by decide +kernel
theorem dX6_entry_15 : decode cX6_entry 15 = .ok (.tableswitch 127 0 8 #[49, 56, 63, 70, 77, 84, 99, 114, 120], 49) := by decide +kernel
theorem dX6_entry_64 : decode cX6_entry 64 = .ok (.aload_n 0, 1) := by decide +kernel
theorem dX6_entry_65 : decode cX6_entry 65 = .ok (.getfield 34, 3) := by decide +kernel
theorem dX6_entry_68 : decode cX6_entry 68 = .ok (.iload_n 1, 1) := by decide +kernel
theorem dX6_entry_69 : decode cX6_entry 69 = .ok (.iaload, 1) := by decide +kernel
theorem dX6_entry_70 : decode cX6_entry 70 = .ok (.ireturn, 1) := by decide +kernel
theorem dX6_entry_71 : decode cX6_entry 71 = .ok (.aload_n 0, 1) := by decide +kernel
theorem dX6_entry_72 : decode cX6_entry 72 = .ok (.getfield 37, 3) := by decide +kernel
theorem dX6_entry_75 : decode cX6_entry 75 = .ok (.iload_n 1, 1) := by decide +kernel
theorem dX6_entry_76 : decode cX6_entry 76 = .ok (.iaload, 1) := by decide +kernel
theorem dX6_entry_77 : decode cX6_entry 77 = .ok (.ireturn, 1) := by decide +kernel
theorem dX6_entry_78 : decode cX6_entry 78 = .ok (.aload_n 0, 1) := by decide +kernel
theorem dX6_entry_79 : decode cX6_entry 79 = .ok (.getfield 40, 3) := by decide +kernel
theorem dX6_entry_82 : decode cX6_entry 82 = .ok (.iload_n 1, 1) := by decide +kernel
theorem dX6_entry_83 : decode cX6_entry 83 = .ok (.iaload, 1) := by decide +kernel
theorem dX6_entry_84 : decode cX6_entry 84 = .ok (.ireturn, 1) := by decide +kernel
theorem dX6_entry_85 : decode cX6_entry 85 = .ok (.aload_n 0, 1) := by decide +kernel
theorem dX6_entry_86 : decode cX6_entry 86 = .ok (.getfield 43, 3) := by decide +kernel
theorem dX6_entry_89 : decode cX6_entry 89 = .ok (.iload_n 1, 1) := by decide +kernel
theorem dX6_entry_90 : decode cX6_entry 90 = .ok (.iaload, 1) := by decide +kernel
theorem dX6_entry_91 : decode cX6_entry 91 = .ok (.ireturn, 1) := by decide +kernel
theorem dX6_entry_92 : decode cX6_entry 92 = .ok (.aload_n 0, 1) := by decide +kernel
theorem dX6_entry_93 : decode cX6_entry 93 = .ok (.getfield 46, 3) := by decide +kernel
theorem dX6_entry_96 : decode cX6_entry 96 = .ok (.iload_n 1, 1) := by decide +kernel
theorem dX6_entry_97 : decode cX6_entry 97 = .ok (.iaload, 1) := by decide +kernel
theorem dX6_entry_98 : decode cX6_entry 98 = .ok (.ireturn, 1) := by decide +kernel
theorem dX6_entry_99 : decode cX6_entry 99 = .ok (.aload_n 0, 1) := by decide +kernel
theorem dX6_entry_100 : decode cX6_entry 100 = .ok (.getfield 52, 3) := by decide +kernel
theorem dX6_entry_103 : decode cX6_entry 103 = .ok (.iload_n 1, 1) := by decide +kernel
theorem dX6_entry_104 : decode cX6_entry 104 = .ok (.baload, 1) := by decide +kernel
theorem dX6_entry_105 : decode cX6_entry 105 = .ok (.ifCond .eq 7, 3) := by decide +kernel
theorem dX6_entry_108 : decode cX6_entry 108 = .ok (.iconst 1, 1) := by decide +kernel
theorem dX6_entry_109 : decode cX6_entry 109 = .ok (.goto 4, 3) := by decide +kernel
theorem dX6_entry_112 : decode cX6_entry 112 = .ok (.iconst 0, 1) := by decide +kernel
theorem dX6_entry_113 : decode cX6_entry 113 = .ok (.ireturn, 1) := by decide +kernel
theorem dX6_entry_114 : decode cX6_entry 114 = .ok (.aload_n 0, 1) := by decide +kernel
theorem dX6_entry_115 : decode cX6_entry 115 = .ok (.getfield 80, 3) := by decide +kernel
theorem dX6_entry_118 : decode cX6_entry 118 = .ok (.iload_n 1, 1) := by decide +kernel
theorem dX6_entry_119 : decode cX6_entry 119 = .ok (.baload, 1) := by decide +kernel
theorem dX6_entry_120 : decode cX6_entry 120 = .ok (.ifCond .eq 7, 3) := by decide +kernel
theorem dX6_entry_123 : decode cX6_entry 123 = .ok (.iconst 1, 1) := by decide +kernel
theorem dX6_entry_124 : decode cX6_entry 124 = .ok (.goto 4, 3) := by decide +kernel
theorem dX6_entry_127 : decode cX6_entry 127 = .ok (.iconst 0, 1) := by decide +kernel
theorem dX6_entry_128 : decode cX6_entry 128 = .ok (.ireturn, 1) := by decide +kernel
theorem dX6_entry_129 : decode cX6_entry 129 = .ok (.aload_n 0, 1) := by decide +kernel
theorem dX6_entry_130 : decode cX6_entry 130 = .ok (.iload_n 1, 1) := by decide +kernel
theorem dX6_entry_131 : decode cX6_entry 131 = .ok (.invokevirtual 181, 3) := by decide +kernel
theorem dX6_entry_134 : decode cX6_entry 134 = .ok (.ireturn, 1) := by decide +kernel
theorem dX6_entry_135 : decode cX6_entry 135 = .ok (.aload_n 0, 1) := by decide +kernel
theorem dX6_entry_136 : decode cX6_entry 136 = .ok (.getfield 49, 3) := by decide +kernel
theorem dX6_entry_139 : decode cX6_entry 139 = .ok (.iload_n 1, 1) := by decide +kernel
theorem dX6_entry_140 : decode cX6_entry 140 = .ok (.iaload, 1) := by decide +kernel
theorem dX6_entry_141 : decode cX6_entry 141 = .ok (.ireturn, 1) := by decide +kernel
theorem dX6_entry_142 : decode cX6_entry 142 = .ok (.iconst (-1), 1) := by decide +kernel
theorem dX6_entry_143 : decode cX6_entry 143 = .ok (.ireturn, 1) := by decide +kernel
theorem dX6_parts_0 : decode cX6_parts 0 = .ok (.aload_n 0, 1) := by decide +kernel
theorem dX6_parts_1 : decode cX6_parts 1 = .ok (.iload_n 1, 1) := by decide +kernel
theorem dX6_parts_2 : decode cX6_parts 2 = .ok (.invokevirtual 156, 3) := by decide +kernel
theorem dX6_parts_5 : decode cX6_parts 5 = .ok (.ifCond .eq 10, 3) := by decide +kernel
theorem dX6_parts_8 : decode cX6_parts 8 = .ok (.iload_n 2, 1) := by decide +kernel
theorem dX6_parts_9 : decode cX6_parts 9 = .ok (.invokestatic 162, 3) := by decide +kernel
theorem dX6_parts_12 : decode cX6_parts 12 = .ok (.ifCond .ne 5, 3) := by decide +kernel
theorem dX6_parts_15 : decode cX6_parts 15 = .ok (.iconst (-1), 1) := by decide +kernel
theorem dX6_parts_16 : decode cX6_parts 16 = .ok (.ireturn, 1) := by decide +kernel
theorem dX6_parts_17 : decode cX6_parts 17 = .ok (.aload_n 0, 1) := by decide +kernel
theorem dX6_parts_18 : decode cX6_parts 18 = .ok (.invokevirtual 178, 3) := by decide +kernel
theorem dX6_parts_21 : decode cX6_parts 21 = .ok (.bipush 8, 2) := by decide +kernel
theorem dX6_parts_23 : decode cX6_parts 23 = .ok (.iload_n 1, 1) := by decide +kernel
theorem dX6_parts_24 : decode cX6_parts 24 = .ok (.imul, 1) := by decide +kernel
theorem dX6_parts_25 : decode cX6_parts 25 = .ok (.iload_n 2, 1) := by decide +kernel
theorem dX6_parts_26 : decode cX6_parts 26 = .ok (.iadd, 1) := by decide +kernel
theorem dX6_parts_27 : decode cX6_parts 27 = .ok (.istore 4, 2) := by decide +kernel
theorem dX6_parts_29 : decode cX6_parts 29 = .ok (.iload_n 3, 1) := by decide +kernel
theorem dX6_parts_30 : decode cX6_parts 30 = .ok (.ifCond .eq 21, 3) := by decide +kernel
theorem dX6_parts_33 : decode cX6_parts 33 = .ok (.aload_n 0, 1) := by decide +kernel
theorem dX6_parts_34 : decode cX6_parts 34 = .ok (.getfield 71, 3) := by decide +kernel
theorem dX6_parts_37 : decode cX6_parts 37 = .ok (.iload 4, 2) := by decide +kernel
theorem dX6_parts_39 : decode cX6_parts 39 = .ok (.iaload, 1) := by decide +kernel
theorem dX6_parts_40 : decode cX6_parts 40 = .ok (.aload_n 0, 1) := by decide +kernel
theorem dX6_parts_41 : decode cX6_parts 41 = .ok (.getfield 74, 3) := by decide +kernel
theorem dX6_parts_44 : decode cX6_parts 44 = .ok (.iload 4, 2) := by decide +kernel
theorem dX6_parts_46 : decode cX6_parts 46 = .ok (.iaload, 1) := by decide +kernel
theorem dX6_parts_47 : decode cX6_parts 47 = .ok (.isub, 1) := by decide +kernel
theorem dX6_parts_48 : decode cX6_parts 48 = .ok (.goto 10, 3) := by decide +kernel
theorem dX6_parts_51 : decode cX6_parts 51 = .ok (.aload_n 0, 1) := by decide +kernel
theorem dX6_parts_52 : decode cX6_parts 52 = .ok (.getfield 71, 3) := by decide +kernel
theorem dX6_parts_55 : decode cX6_parts 55 = .ok (.iload 4, 2) := by decide +kernel
theorem dX6_parts_57 : decode cX6_parts 57 = .ok (.iaload, 1) := by decide +kernel
theorem dX6_parts_58 : decode cX6_parts 58 = .ok (.ireturn, 1) := by decide +kernel
theorem dX6_manager_0 : decode cX6_manager 0 = .ok (.aload_n 0, 1) := by decide +kernel
theorem dX6_manager_1 : decode cX6_manager 1 = .ok (.iload_n 1, 1) := by decide +kernel
theorem dX6_manager_2 : decode cX6_manager 2 = .ok (.invokevirtual 156, 3) := by decide +kernel
theorem dX6_manager_5 : decode cX6_manager 5 = .ok (.ifCond .ne 5, 3) := by decide +kernel
theorem dX6_manager_8 : decode cX6_manager 8 = .ok (.iconst (-1), 1) := by decide +kernel
theorem dX6_manager_9 : decode cX6_manager 9 = .ok (.ireturn, 1) := by decide +kernel
theorem dX6_manager_10 : decode cX6_manager 10 = .ok (.aload_n 0, 1) := by decide +kernel
theorem dX6_manager_11 : decode cX6_manager 11 = .ok (.invokevirtual 178, 3) := by decide +kernel
theorem dX6_manager_14 : decode cX6_manager 14 = .ok (.iconst 0, 1) := by decide +kernel
theorem dX6_manager_15 : decode cX6_manager 15 = .ok (.istore_n 2, 1) := by decide +kernel
theorem dX6_manager_16 : decode cX6_manager 16 = .ok (.iconst 1, 1) := by decide +kernel
theorem dX6_manager_17 : decode cX6_manager 17 = .ok (.istore_n 3, 1) := by decide +kernel
theorem dX6_manager_18 : decode cX6_manager 18 = .ok (.iload_n 3, 1) := by decide +kernel
theorem dX6_manager_19 : decode cX6_manager 19 = .ok (.bipush 8, 2) := by decide +kernel
theorem dX6_manager_21 : decode cX6_manager 21 = .ok (.if_icmp .ge 40, 3) := by decide +kernel
theorem dX6_manager_24 : decode cX6_manager 24 = .ok (.aload_n 0, 1) := by decide +kernel
theorem dX6_manager_25 : decode cX6_manager 25 = .ok (.getfield 71, 3) := by decide +kernel
theorem dX6_manager_28 : decode cX6_manager 28 = .ok (.bipush 8, 2) := by decide +kernel
theorem dX6_manager_30 : decode cX6_manager 30 = .ok (.iload_n 1, 1) := by decide +kernel
theorem dX6_manager_31 : decode cX6_manager 31 = .ok (.imul, 1) := by decide +kernel
theorem dX6_manager_32 : decode cX6_manager 32 = .ok (.iload_n 3, 1) := by decide +kernel
theorem dX6_manager_33 : decode cX6_manager 33 = .ok (.iadd, 1) := by decide +kernel
theorem dX6_manager_34 : decode cX6_manager 34 = .ok (.iaload, 1) := by decide +kernel
theorem dX6_manager_35 : decode cX6_manager 35 = .ok (.aload_n 0, 1) := by decide +kernel
theorem dX6_manager_36 : decode cX6_manager 36 = .ok (.getfield 71, 3) := by decide +kernel
theorem dX6_manager_39 : decode cX6_manager 39 = .ok (.bipush 8, 2) := by decide +kernel
theorem dX6_manager_41 : decode cX6_manager 41 = .ok (.iload_n 1, 1) := by decide +kernel
theorem dX6_manager_42 : decode cX6_manager 42 = .ok (.imul, 1) := by decide +kernel
theorem dX6_manager_43 : decode cX6_manager 43 = .ok (.iload_n 2, 1) := by decide +kernel
theorem dX6_manager_44 : decode cX6_manager 44 = .ok (.iadd, 1) := by decide +kernel
theorem dX6_manager_45 : decode cX6_manager 45 = .ok (.iaload, 1) := by decide +kernel
theorem dX6_manager_46 : decode cX6_manager 46 = .ok (.if_icmp .le 7, 3) := by decide +kernel
theorem dX6_manager_49 : decode cX6_manager 49 = .ok (.iload_n 3, 1) := by decide +kernel
theorem dX6_manager_50 : decode cX6_manager 50 = .ok (.goto 4, 3) := by decide +kernel
theorem dX6_manager_53 : decode cX6_manager 53 = .ok (.iload_n 2, 1) := by decide +kernel
theorem dX6_manager_54 : decode cX6_manager 54 = .ok (.istore_n 2, 1) := by decide +kernel
theorem dX6_manager_55 : decode cX6_manager 55 = .ok (.iinc 3 1, 3) := by decide +kernel
theorem dX6_manager_58 : decode cX6_manager 58 = .ok (.goto (-40), 3) := by decide +kernel
theorem dX6_manager_61 : decode cX6_manager 61 = .ok (.iload_n 2, 1) := by decide +kernel
theorem dX6_manager_62 : decode cX6_manager 62 = .ok (.ireturn, 1) := by decide +kernel
theorem dX6_held_0 : decode cX6_held 0 = .ok (.aload_n 0, 1) := by decide +kernel
theorem dX6_held_1 : decode cX6_held 1 = .ok (.iload_n 1, 1) := by decide +kernel
theorem dX6_held_2 : decode cX6_held 2 = .ok (.invokevirtual 156, 3) := by decide +kernel
theorem dX6_held_5 : decode cX6_held 5 = .ok (.ifCond .eq 10, 3) := by decide +kernel
theorem dX6_held_8 : decode cX6_held 8 = .ok (.iload_n 2, 1) := by decide +kernel
theorem dX6_held_9 : decode cX6_held 9 = .ok (.invokestatic 162, 3) := by decide +kernel
theorem dX6_held_12 : decode cX6_held 12 = .ok (.ifCond .ne 5, 3) := by decide +kernel
theorem dX6_held_15 : decode cX6_held 15 = .ok (.iconst (-1), 1) := by decide +kernel
theorem dX6_held_16 : decode cX6_held 16 = .ok (.ireturn, 1) := by decide +kernel
theorem dX6_held_17 : decode cX6_held 17 = .ok (.aload_n 0, 1) := by decide +kernel
theorem dX6_held_18 : decode cX6_held 18 = .ok (.invokevirtual 178, 3) := by decide +kernel
theorem dX6_held_21 : decode cX6_held 21 = .ok (.iconst 0, 1) := by decide +kernel
theorem dX6_held_22 : decode cX6_held 22 = .ok (.istore_n 3, 1) := by decide +kernel
theorem dX6_held_23 : decode cX6_held 23 = .ok (.iconst 0, 1) := by decide +kernel
theorem dX6_held_24 : decode cX6_held 24 = .ok (.istore 4, 2) := by decide +kernel
theorem dX6_held_26 : decode cX6_held 26 = .ok (.iload 4, 2) := by decide +kernel
theorem dX6_held_28 : decode cX6_held 28 = .ok (.aload_n 0, 1) := by decide +kernel
theorem dX6_held_29 : decode cX6_held 29 = .ok (.getfield 159, 3) := by decide +kernel
theorem dX6_held_32 : decode cX6_held 32 = .ok (.if_icmp .ge 55, 3) := by decide +kernel
theorem dX6_held_35 : decode cX6_held 35 = .ok (.iload_n 3, 1) := by decide +kernel
theorem dX6_held_36 : decode cX6_held 36 = .ok (.aload_n 0, 1) := by decide +kernel
theorem dX6_held_37 : decode cX6_held 37 = .ok (.getfield 77, 3) := by decide +kernel
theorem dX6_held_40 : decode cX6_held 40 = .ok (.iload 4, 2) := by decide +kernel
theorem dX6_held_42 : decode cX6_held 42 = .ok (.baload, 1) := by decide +kernel
theorem dX6_held_43 : decode cX6_held 43 = .ok (.ifCond .eq 35, 3) := by decide +kernel
theorem dX6_held_46 : decode cX6_held 46 = .ok (.aload_n 0, 1) := by decide +kernel
theorem dX6_held_47 : decode cX6_held 47 = .ok (.getfield 37, 3) := by decide +kernel
theorem dX6_held_50 : decode cX6_held 50 = .ok (.iload 4, 2) := by decide +kernel
theorem dX6_held_52 : decode cX6_held 52 = .ok (.iaload, 1) := by decide +kernel
theorem dX6_held_53 : decode cX6_held 53 = .ok (.iload_n 1, 1) := by decide +kernel
theorem dX6_held_54 : decode cX6_held 54 = .ok (.if_icmp .ne 24, 3) := by decide +kernel
theorem dX6_held_57 : decode cX6_held 57 = .ok (.aload_n 0, 1) := by decide +kernel
theorem dX6_held_58 : decode cX6_held 58 = .ok (.getfield 43, 3) := by decide +kernel
theorem dX6_held_61 : decode cX6_held 61 = .ok (.iload 4, 2) := by decide +kernel
theorem dX6_held_63 : decode cX6_held 63 = .ok (.iaload, 1) := by decide +kernel
theorem dX6_held_64 : decode cX6_held 64 = .ok (.iload_n 2, 1) := by decide +kernel
theorem dX6_held_65 : decode cX6_held 65 = .ok (.if_icmp .ne 13, 3) := by decide +kernel
theorem dX6_held_68 : decode cX6_held 68 = .ok (.aload_n 0, 1) := by decide +kernel
theorem dX6_held_69 : decode cX6_held 69 = .ok (.getfield 46, 3) := by decide +kernel
theorem dX6_held_72 : decode cX6_held 72 = .ok (.iload 4, 2) := by decide +kernel
theorem dX6_held_74 : decode cX6_held 74 = .ok (.iaload, 1) := by decide +kernel
theorem dX6_held_75 : decode cX6_held 75 = .ok (.goto 4, 3) := by decide +kernel
theorem dX6_held_78 : decode cX6_held 78 = .ok (.iconst 0, 1) := by decide +kernel
theorem dX6_held_79 : decode cX6_held 79 = .ok (.iadd, 1) := by decide +kernel
theorem dX6_held_80 : decode cX6_held 80 = .ok (.istore_n 3, 1) := by decide +kernel
theorem dX6_held_81 : decode cX6_held 81 = .ok (.iinc 4 1, 3) := by decide +kernel
theorem dX6_held_84 : decode cX6_held 84 = .ok (.goto (-58), 3) := by decide +kernel
theorem dX6_held_87 : decode cX6_held 87 = .ok (.iload_n 3, 1) := by decide +kernel
theorem dX6_held_88 : decode cX6_held 88 = .ok (.ireturn, 1) := by decide +kernel
theorem dX6_isPaper_0 : decode cX6_isPaper 0 = .ok (.iload_n 1, 1) := by decide +kernel
theorem dX6_isPaper_1 : decode cX6_isPaper 1 = .ok (.iconst 0, 1) := by decide +kernel
theorem dX6_isPaper_2 : decode cX6_isPaper 2 = .ok (.aload_n 0, 1) := by decide +kernel
theorem dX6_isPaper_3 : decode cX6_isPaper 3 = .ok (.getfield 184, 3) := by decide +kernel
theorem dX6_isPaper_6 : decode cX6_isPaper 6 = .ok (.iconst 1, 1) := by decide +kernel
theorem dX6_isPaper_7 : decode cX6_isPaper 7 = .ok (.isub, 1) := by decide +kernel
theorem dX6_isPaper_8 : decode cX6_isPaper 8 = .ok (.invokestatic 101, 3) := by decide +kernel
theorem dX6_isPaper_11 : decode cX6_isPaper 11 = .ok (.ireturn, 1) := by decide +kernel
theorem dX6_paper_0 : decode cX6_paper 0 = .ok (.iload_n 1, 1) := by decide +kernel
theorem dX6_paper_1 : decode cX6_paper 1 = .ok (.iconst 0, 1) := by decide +kernel
theorem dX6_paper_2 : decode cX6_paper 2 = .ok (.sipush 999, 3) := by decide +kernel
theorem dX6_paper_5 : decode cX6_paper 5 = .ok (.invokestatic 101, 3) := by decide +kernel
theorem dX6_paper_8 : decode cX6_paper 8 = .ok (.ifCond .eq 46, 3) := by decide +kernel
theorem dX6_paper_11 : decode cX6_paper 11 = .ok (.iload_n 2, 1) := by decide +kernel
theorem dX6_paper_12 : decode cX6_paper 12 = .ok (.iload_n 1, 1) := by decide +kernel
theorem dX6_paper_13 : decode cX6_paper 13 = .ok (.sipush 999, 3) := by decide +kernel
theorem dX6_paper_16 : decode cX6_paper 16 = .ok (.invokestatic 101, 3) := by decide +kernel
theorem dX6_paper_19 : decode cX6_paper 19 = .ok (.ifCond .eq 35, 3) := by decide +kernel
theorem dX6_paper_22 : decode cX6_paper 22 = .ok (.iload_n 3, 1) := by decide +kernel
theorem dX6_paper_23 : decode cX6_paper 23 = .ok (.iconst 1, 1) := by decide +kernel
theorem dX6_paper_24 : decode cX6_paper 24 = .ok (.bipush 99, 2) := by decide +kernel
theorem dX6_paper_26 : decode cX6_paper 26 = .ok (.invokestatic 101, 3) := by decide +kernel
theorem dX6_paper_29 : decode cX6_paper 29 = .ok (.ifCond .eq 25, 3) := by decide +kernel
theorem dX6_paper_32 : decode cX6_paper 32 = .ok (.iload 4, 2) := by decide +kernel
theorem dX6_paper_34 : decode cX6_paper 34 = .ok (.iload_n 3, 1) := by decide +kernel
theorem dX6_paper_35 : decode cX6_paper 35 = .ok (.bipush 99, 2) := by decide +kernel
theorem dX6_paper_37 : decode cX6_paper 37 = .ok (.invokestatic 101, 3) := by decide +kernel
theorem dX6_paper_40 : decode cX6_paper 40 = .ok (.ifCond .eq 14, 3) := by decide +kernel
theorem dX6_paper_43 : decode cX6_paper 43 = .ok (.iload 5, 2) := by decide +kernel
theorem dX6_paper_45 : decode cX6_paper 45 = .ok (.iconst 0, 1) := by decide +kernel
theorem dX6_paper_46 : decode cX6_paper 46 = .ok (.bipush 9, 2) := by decide +kernel
theorem dX6_paper_48 : decode cX6_paper 48 = .ok (.invokestatic 101, 3) := by decide +kernel
theorem dX6_paper_51 : decode cX6_paper 51 = .ok (.ifCond .ne 5, 3) := by decide +kernel
theorem dX6_paper_54 : decode cX6_paper 54 = .ok (.iconst (-1), 1) := by decide +kernel
theorem dX6_paper_55 : decode cX6_paper 55 = .ok (.ireturn, 1) := by decide +kernel
theorem dX6_paper_56 : decode cX6_paper 56 = .ok (.aload_n 0, 1) := by decide +kernel
theorem dX6_paper_57 : decode cX6_paper 57 = .ok (.getfield 184, 3) := by decide +kernel
theorem dX6_paper_60 : decode cX6_paper 60 = .ok (.bipush 8, 2) := by decide +kernel
theorem dX6_paper_62 : decode cX6_paper 62 = .ok (.if_icmp .ne 6, 3) := by decide +kernel
theorem dX6_paper_65 : decode cX6_paper 65 = .ok (.bipush (-2), 2) := by decide +kernel
theorem dX6_paper_67 : decode cX6_paper 67 = .ok (.ireturn, 1) := by decide +kernel
theorem dX6_paper_68 : decode cX6_paper 68 = .ok (.iconst 5, 1) := by decide +kernel
theorem dX6_paper_69 : decode cX6_paper 69 = .ok (.aload_n 0, 1) := by decide +kernel
theorem dX6_paper_70 : decode cX6_paper 70 = .ok (.getfield 184, 3) := by decide +kernel
theorem dX6_paper_73 : decode cX6_paper 73 = .ok (.imul, 1) := by decide +kernel
theorem dX6_paper_74 : decode cX6_paper 74 = .ok (.istore 6, 2) := by decide +kernel
theorem dX6_paper_76 : decode cX6_paper 76 = .ok (.aload_n 0, 1) := by decide +kernel
theorem dX6_paper_77 : decode cX6_paper 77 = .ok (.getfield 56, 3) := by decide +kernel
theorem dX6_paper_80 : decode cX6_paper 80 = .ok (.iload 6, 2) := by decide +kernel
theorem dX6_paper_82 : decode cX6_paper 82 = .ok (.iload_n 1, 1) := by decide +kernel
theorem dX6_paper_83 : decode cX6_paper 83 = .ok (.iastore, 1) := by decide +kernel
theorem dX6_paper_84 : decode cX6_paper 84 = .ok (.aload_n 0, 1) := by decide +kernel
theorem dX6_paper_85 : decode cX6_paper 85 = .ok (.getfield 56, 3) := by decide +kernel
theorem dX6_paper_88 : decode cX6_paper 88 = .ok (.iload 6, 2) := by decide +kernel
theorem dX6_paper_90 : decode cX6_paper 90 = .ok (.iconst 1, 1) := by decide +kernel
theorem dX6_paper_91 : decode cX6_paper 91 = .ok (.iadd, 1) := by decide +kernel
theorem dX6_paper_92 : decode cX6_paper 92 = .ok (.iload_n 2, 1) := by decide +kernel
theorem dX6_paper_93 : decode cX6_paper 93 = .ok (.iastore, 1) := by decide +kernel
theorem dX6_paper_94 : decode cX6_paper 94 = .ok (.aload_n 0, 1) := by decide +kernel
theorem dX6_paper_95 : decode cX6_paper 95 = .ok (.getfield 56, 3) := by decide +kernel
theorem dX6_paper_98 : decode cX6_paper 98 = .ok (.iload 6, 2) := by decide +kernel
theorem dX6_paper_100 : decode cX6_paper 100 = .ok (.iconst 2, 1) := by decide +kernel
theorem dX6_paper_101 : decode cX6_paper 101 = .ok (.iadd, 1) := by decide +kernel
theorem dX6_paper_102 : decode cX6_paper 102 = .ok (.iload_n 3, 1) := by decide +kernel
theorem dX6_paper_103 : decode cX6_paper 103 = .ok (.iastore, 1) := by decide +kernel
theorem dX6_paper_104 : decode cX6_paper 104 = .ok (.aload_n 0, 1) := by decide +kernel
theorem dX6_paper_105 : decode cX6_paper 105 = .ok (.getfield 56, 3) := by decide +kernel
theorem dX6_paper_108 : decode cX6_paper 108 = .ok (.iload 6, 2) := by decide +kernel
theorem dX6_paper_110 : decode cX6_paper 110 = .ok (.iconst 3, 1) := by decide +kernel
theorem dX6_paper_111 : decode cX6_paper 111 = .ok (.iadd, 1) := by decide +kernel
theorem dX6_paper_112 : decode cX6_paper 112 = .ok (.iload 4, 2) := by decide +kernel
theorem dX6_paper_114 : decode cX6_paper 114 = .ok (.iastore, 1) := by decide +kernel
theorem dX6_paper_115 : decode cX6_paper 115 = .ok (.aload_n 0, 1) := by decide +kernel
theorem dX6_paper_116 : decode cX6_paper 116 = .ok (.getfield 56, 3) := by decide +kernel
theorem dX6_paper_119 : decode cX6_paper 119 = .ok (.iload 6, 2) := by decide +kernel
theorem dX6_paper_121 : decode cX6_paper 121 = .ok (.iconst 4, 1) := by decide +kernel
theorem dX6_paper_122 : decode cX6_paper 122 = .ok (.iadd, 1) := by decide +kernel
theorem dX6_paper_123 : decode cX6_paper 123 = .ok (.iload 5, 2) := by decide +kernel
theorem dX6_paper_125 : decode cX6_paper 125 = .ok (.iastore, 1) := by decide +kernel
theorem dX6_paper_126 : decode cX6_paper 126 = .ok (.aload_n 0, 1) := by decide +kernel
theorem dX6_paper_127 : decode cX6_paper 127 = .ok (.dup, 1) := by decide +kernel
theorem dX6_paper_128 : decode cX6_paper 128 = .ok (.getfield 184, 3) := by decide +kernel
theorem dX6_paper_131 : decode cX6_paper 131 = .ok (.iconst 1, 1) := by decide +kernel
theorem dX6_paper_132 : decode cX6_paper 132 = .ok (.iadd, 1) := by decide +kernel
theorem dX6_paper_133 : decode cX6_paper 133 = .ok (.putfield 184, 3) := by decide +kernel
theorem dX6_paper_136 : decode cX6_paper 136 = .ok (.aload_n 0, 1) := by decide +kernel
theorem dX6_paper_137 : decode cX6_paper 137 = .ok (.getfield 184, 3) := by decide +kernel
theorem dX6_paper_140 : decode cX6_paper 140 = .ok (.iconst 1, 1) := by decide +kernel
theorem dX6_paper_141 : decode cX6_paper 141 = .ok (.isub, 1) := by decide +kernel
theorem dX6_paper_142 : decode cX6_paper 142 = .ok (.ireturn, 1) := by decide +kernel
theorem dX6_witnessOf_0 : decode cX6_witnessOf 0 = .ok (.iconst 0, 1) := by decide +kernel
theorem dX6_witnessOf_1 : decode cX6_witnessOf 1 = .ok (.istore_n 3, 1) := by decide +kernel
theorem dX6_witnessOf_2 : decode cX6_witnessOf 2 = .ok (.iload_n 3, 1) := by decide +kernel
theorem dX6_witnessOf_3 : decode cX6_witnessOf 3 = .ok (.aload_n 0, 1) := by decide +kernel
theorem dX6_witnessOf_4 : decode cX6_witnessOf 4 = .ok (.getfield 187, 3) := by decide +kernel
theorem dX6_witnessOf_7 : decode cX6_witnessOf 7 = .ok (.if_icmp .ge 51, 3) := by decide +kernel
theorem dX6_witnessOf_10 : decode cX6_witnessOf 10 = .ok (.aload_n 0, 1) := by decide +kernel
theorem dX6_witnessOf_11 : decode cX6_witnessOf 11 = .ok (.getfield 59, 3) := by decide +kernel
theorem dX6_witnessOf_14 : decode cX6_witnessOf 14 = .ok (.iload_n 3, 1) := by decide +kernel
theorem dX6_witnessOf_15 : decode cX6_witnessOf 15 = .ok (.iaload, 1) := by decide +kernel
theorem dX6_witnessOf_16 : decode cX6_witnessOf 16 = .ok (.iload_n 1, 1) := by decide +kernel
theorem dX6_witnessOf_17 : decode cX6_witnessOf 17 = .ok (.if_icmp .ne 13, 3) := by decide +kernel
theorem dX6_witnessOf_20 : decode cX6_witnessOf 20 = .ok (.aload_n 0, 1) := by decide +kernel
theorem dX6_witnessOf_21 : decode cX6_witnessOf 21 = .ok (.getfield 62, 3) := by decide +kernel
theorem dX6_witnessOf_24 : decode cX6_witnessOf 24 = .ok (.iload_n 3, 1) := by decide +kernel
theorem dX6_witnessOf_25 : decode cX6_witnessOf 25 = .ok (.iaload, 1) := by decide +kernel
theorem dX6_witnessOf_26 : decode cX6_witnessOf 26 = .ok (.iload_n 2, 1) := by decide +kernel
theorem dX6_witnessOf_27 : decode cX6_witnessOf 27 = .ok (.if_icmp .eq 23, 3) := by decide +kernel
theorem dX6_witnessOf_30 : decode cX6_witnessOf 30 = .ok (.aload_n 0, 1) := by decide +kernel
theorem dX6_witnessOf_31 : decode cX6_witnessOf 31 = .ok (.getfield 59, 3) := by decide +kernel
theorem dX6_witnessOf_34 : decode cX6_witnessOf 34 = .ok (.iload_n 3, 1) := by decide +kernel
theorem dX6_witnessOf_35 : decode cX6_witnessOf 35 = .ok (.iaload, 1) := by decide +kernel
theorem dX6_witnessOf_36 : decode cX6_witnessOf 36 = .ok (.iload_n 2, 1) := by decide +kernel
theorem dX6_witnessOf_37 : decode cX6_witnessOf 37 = .ok (.if_icmp .ne 15, 3) := by decide +kernel
theorem dX6_witnessOf_40 : decode cX6_witnessOf 40 = .ok (.aload_n 0, 1) := by decide +kernel
theorem dX6_witnessOf_41 : decode cX6_witnessOf 41 = .ok (.getfield 62, 3) := by decide +kernel
theorem dX6_witnessOf_44 : decode cX6_witnessOf 44 = .ok (.iload_n 3, 1) := by decide +kernel
theorem dX6_witnessOf_45 : decode cX6_witnessOf 45 = .ok (.iaload, 1) := by decide +kernel
theorem dX6_witnessOf_46 : decode cX6_witnessOf 46 = .ok (.iload_n 1, 1) := by decide +kernel
theorem dX6_witnessOf_47 : decode cX6_witnessOf 47 = .ok (.if_icmp .ne 5, 3) := by decide +kernel
theorem dX6_witnessOf_50 : decode cX6_witnessOf 50 = .ok (.iload_n 3, 1) := by decide +kernel
theorem dX6_witnessOf_51 : decode cX6_witnessOf 51 = .ok (.ireturn, 1) := by decide +kernel
theorem dX6_witnessOf_52 : decode cX6_witnessOf 52 = .ok (.iinc 3 1, 3) := by decide +kernel
theorem dX6_witnessOf_55 : decode cX6_witnessOf 55 = .ok (.goto (-53), 3) := by decide +kernel
theorem dX6_witnessOf_58 : decode cX6_witnessOf 58 = .ok (.bipush (-4), 2) := by decide +kernel
theorem dX6_witnessOf_60 : decode cX6_witnessOf 60 = .ok (.ireturn, 1) := by decide +kernel
theorem dX6_witness_0 : decode cX6_witness 0 = .ok (.aload_n 0, 1) := by decide +kernel
theorem dX6_witness_1 : decode cX6_witness 1 = .ok (.iload_n 1, 1) := by decide +kernel
theorem dX6_witness_2 : decode cX6_witness 2 = .ok (.invokevirtual 190, 3) := by decide +kernel
theorem dX6_witness_5 : decode cX6_witness 5 = .ok (.ifCond .eq 16, 3) := by decide +kernel
theorem dX6_witness_8 : decode cX6_witness 8 = .ok (.aload_n 0, 1) := by decide +kernel
theorem dX6_witness_9 : decode cX6_witness 9 = .ok (.iload_n 2, 1) := by decide +kernel
theorem dX6_witness_10 : decode cX6_witness 10 = .ok (.invokevirtual 190, 3) := by decide +kernel
theorem dX6_witness_13 : decode cX6_witness 13 = .ok (.ifCond .eq 8, 3) := by decide +kernel
theorem dX6_witness_16 : decode cX6_witness 16 = .ok (.iload_n 1, 1) := by decide +kernel
theorem dX6_witness_17 : decode cX6_witness 17 = .ok (.iload_n 2, 1) := by decide +kernel
theorem dX6_witness_18 : decode cX6_witness 18 = .ok (.if_icmp .ne 5, 3) := by decide +kernel
theorem dX6_witness_21 : decode cX6_witness 21 = .ok (.iconst (-1), 1) := by decide +kernel
theorem dX6_witness_22 : decode cX6_witness 22 = .ok (.ireturn, 1) := by decide +kernel
theorem dX6_witness_23 : decode cX6_witness 23 = .ok (.aload_n 0, 1) := by decide +kernel
theorem dX6_witness_24 : decode cX6_witness 24 = .ok (.iload_n 1, 1) := by decide +kernel
theorem dX6_witness_25 : decode cX6_witness 25 = .ok (.iload_n 2, 1) := by decide +kernel
theorem dX6_witness_26 : decode cX6_witness 26 = .ok (.invokevirtual 193, 3) := by decide +kernel
theorem dX6_witness_29 : decode cX6_witness 29 = .ok (.ifCond .lt 6, 3) := by decide +kernel
theorem dX6_witness_32 : decode cX6_witness 32 = .ok (.bipush (-3), 2) := by decide +kernel
theorem dX6_witness_34 : decode cX6_witness 34 = .ok (.ireturn, 1) := by decide +kernel
theorem dX6_witness_35 : decode cX6_witness 35 = .ok (.aload_n 0, 1) := by decide +kernel
theorem dX6_witness_36 : decode cX6_witness 36 = .ok (.getfield 187, 3) := by decide +kernel
theorem dX6_witness_39 : decode cX6_witness 39 = .ok (.bipush 6, 2) := by decide +kernel
theorem dX6_witness_41 : decode cX6_witness 41 = .ok (.if_icmp .ne 6, 3) := by decide +kernel
theorem dX6_witness_44 : decode cX6_witness 44 = .ok (.bipush (-2), 2) := by decide +kernel
theorem dX6_witness_46 : decode cX6_witness 46 = .ok (.ireturn, 1) := by decide +kernel
theorem dX6_witness_47 : decode cX6_witness 47 = .ok (.aload_n 0, 1) := by decide +kernel
theorem dX6_witness_48 : decode cX6_witness 48 = .ok (.getfield 59, 3) := by decide +kernel
theorem dX6_witness_51 : decode cX6_witness 51 = .ok (.aload_n 0, 1) := by decide +kernel
theorem dX6_witness_52 : decode cX6_witness 52 = .ok (.getfield 187, 3) := by decide +kernel
theorem dX6_witness_55 : decode cX6_witness 55 = .ok (.iload_n 1, 1) := by decide +kernel
theorem dX6_witness_56 : decode cX6_witness 56 = .ok (.iastore, 1) := by decide +kernel
theorem dX6_witness_57 : decode cX6_witness 57 = .ok (.aload_n 0, 1) := by decide +kernel
theorem dX6_witness_58 : decode cX6_witness 58 = .ok (.getfield 62, 3) := by decide +kernel
theorem dX6_witness_61 : decode cX6_witness 61 = .ok (.aload_n 0, 1) := by decide +kernel
theorem dX6_witness_62 : decode cX6_witness 62 = .ok (.getfield 187, 3) := by decide +kernel
theorem dX6_witness_65 : decode cX6_witness 65 = .ok (.iload_n 2, 1) := by decide +kernel
theorem dX6_witness_66 : decode cX6_witness 66 = .ok (.iastore, 1) := by decide +kernel
theorem dX6_witness_67 : decode cX6_witness 67 = .ok (.aload_n 0, 1) := by decide +kernel
theorem dX6_witness_68 : decode cX6_witness 68 = .ok (.getfield 65, 3) := by decide +kernel
theorem dX6_witness_71 : decode cX6_witness 71 = .ok (.aload_n 0, 1) := by decide +kernel
theorem dX6_witness_72 : decode cX6_witness 72 = .ok (.getfield 187, 3) := by decide +kernel
theorem dX6_witness_75 : decode cX6_witness 75 = .ok (.iload_n 3, 1) := by decide +kernel
theorem dX6_witness_76 : decode cX6_witness 76 = .ok (.bastore, 1) := by decide +kernel
theorem dX6_witness_77 : decode cX6_witness 77 = .ok (.aload_n 0, 1) := by decide +kernel
theorem dX6_witness_78 : decode cX6_witness 78 = .ok (.dup, 1) := by decide +kernel
theorem dX6_witness_79 : decode cX6_witness 79 = .ok (.getfield 187, 3) := by decide +kernel
theorem dX6_witness_82 : decode cX6_witness 82 = .ok (.iconst 1, 1) := by decide +kernel
theorem dX6_witness_83 : decode cX6_witness 83 = .ok (.iadd, 1) := by decide +kernel
theorem dX6_witness_84 : decode cX6_witness 84 = .ok (.putfield 187, 3) := by decide +kernel
theorem dX6_witness_87 : decode cX6_witness 87 = .ok (.aload_n 0, 1) := by decide +kernel
theorem dX6_witness_88 : decode cX6_witness 88 = .ok (.getfield 187, 3) := by decide +kernel
theorem dX6_witness_91 : decode cX6_witness 91 = .ok (.ireturn, 1) := by decide +kernel
theorem dX6_areAlike_0 : decode cX6_areAlike 0 = .ok (.aload_n 0, 1) := by decide +kernel
theorem dX6_areAlike_1 : decode cX6_areAlike 1 = .ok (.iload_n 1, 1) := by decide +kernel
theorem dX6_areAlike_2 : decode cX6_areAlike 2 = .ok (.iload_n 2, 1) := by decide +kernel
theorem dX6_areAlike_3 : decode cX6_areAlike 3 = .ok (.invokevirtual 193, 3) := by decide +kernel
theorem dX6_areAlike_6 : decode cX6_areAlike 6 = .ok (.istore_n 3, 1) := by decide +kernel
theorem dX6_areAlike_7 : decode cX6_areAlike 7 = .ok (.iload_n 3, 1) := by decide +kernel
theorem dX6_areAlike_8 : decode cX6_areAlike 8 = .ok (.ifCond .lt 10, 3) := by decide +kernel
theorem dX6_areAlike_11 : decode cX6_areAlike 11 = .ok (.aload_n 0, 1) := by decide +kernel
theorem dX6_areAlike_12 : decode cX6_areAlike 12 = .ok (.getfield 65, 3) := by decide +kernel
theorem dX6_areAlike_15 : decode cX6_areAlike 15 = .ok (.iload_n 3, 1) := by decide +kernel
theorem dX6_areAlike_16 : decode cX6_areAlike 16 = .ok (.baload, 1) := by decide +kernel
theorem dX6_areAlike_17 : decode cX6_areAlike 17 = .ok (.ireturn, 1) := by decide +kernel
theorem dX6_areAlike_18 : decode cX6_areAlike 18 = .ok (.iconst 5, 1) := by decide +kernel
theorem dX6_areAlike_19 : decode cX6_areAlike 19 = .ok (.iload_n 1, 1) := by decide +kernel
theorem dX6_areAlike_20 : decode cX6_areAlike 20 = .ok (.imul, 1) := by decide +kernel
theorem dX6_areAlike_21 : decode cX6_areAlike 21 = .ok (.istore 4, 2) := by decide +kernel
theorem dX6_areAlike_23 : decode cX6_areAlike 23 = .ok (.iconst 5, 1) := by decide +kernel
theorem dX6_areAlike_24 : decode cX6_areAlike 24 = .ok (.iload_n 2, 1) := by decide +kernel
theorem dX6_areAlike_25 : decode cX6_areAlike 25 = .ok (.imul, 1) := by decide +kernel
theorem dX6_areAlike_26 : decode cX6_areAlike 26 = .ok (.istore 5, 2) := by decide +kernel
theorem dX6_areAlike_28 : decode cX6_areAlike 28 = .ok (.aload_n 0, 1) := by decide +kernel
theorem dX6_areAlike_29 : decode cX6_areAlike 29 = .ok (.getfield 56, 3) := by decide +kernel
theorem dX6_areAlike_32 : decode cX6_areAlike 32 = .ok (.iload 4, 2) := by decide +kernel
theorem dX6_areAlike_34 : decode cX6_areAlike 34 = .ok (.iaload, 1) := by decide +kernel
theorem dX6_areAlike_35 : decode cX6_areAlike 35 = .ok (.aload_n 0, 1) := by decide +kernel
theorem dX6_areAlike_36 : decode cX6_areAlike 36 = .ok (.getfield 56, 3) := by decide +kernel
theorem dX6_areAlike_39 : decode cX6_areAlike 39 = .ok (.iload 5, 2) := by decide +kernel
theorem dX6_areAlike_41 : decode cX6_areAlike 41 = .ok (.iconst 1, 1) := by decide +kernel
theorem dX6_areAlike_42 : decode cX6_areAlike 42 = .ok (.iadd, 1) := by decide +kernel
theorem dX6_areAlike_43 : decode cX6_areAlike 43 = .ok (.iaload, 1) := by decide +kernel
theorem dX6_areAlike_44 : decode cX6_areAlike 44 = .ok (.if_icmp .gt 26, 3) := by decide +kernel
theorem dX6_areAlike_47 : decode cX6_areAlike 47 = .ok (.aload_n 0, 1) := by decide +kernel
theorem dX6_areAlike_48 : decode cX6_areAlike 48 = .ok (.getfield 56, 3) := by decide +kernel
theorem dX6_areAlike_51 : decode cX6_areAlike 51 = .ok (.iload 5, 2) := by decide +kernel
theorem dX6_areAlike_53 : decode cX6_areAlike 53 = .ok (.iaload, 1) := by decide +kernel
theorem dX6_areAlike_54 : decode cX6_areAlike 54 = .ok (.aload_n 0, 1) := by decide +kernel
theorem dX6_areAlike_55 : decode cX6_areAlike 55 = .ok (.getfield 56, 3) := by decide +kernel
theorem dX6_areAlike_58 : decode cX6_areAlike 58 = .ok (.iload 4, 2) := by decide +kernel
theorem dX6_areAlike_60 : decode cX6_areAlike 60 = .ok (.iconst 1, 1) := by decide +kernel
theorem dX6_areAlike_61 : decode cX6_areAlike 61 = .ok (.iadd, 1) := by decide +kernel
theorem dX6_areAlike_62 : decode cX6_areAlike 62 = .ok (.iaload, 1) := by decide +kernel
theorem dX6_areAlike_63 : decode cX6_areAlike 63 = .ok (.if_icmp .gt 7, 3) := by decide +kernel
theorem dX6_areAlike_66 : decode cX6_areAlike 66 = .ok (.iconst 1, 1) := by decide +kernel
theorem dX6_areAlike_67 : decode cX6_areAlike 67 = .ok (.goto 4, 3) := by decide +kernel
theorem dX6_areAlike_70 : decode cX6_areAlike 70 = .ok (.iconst 0, 1) := by decide +kernel
theorem dX6_areAlike_71 : decode cX6_areAlike 71 = .ok (.istore 6, 2) := by decide +kernel
theorem dX6_areAlike_73 : decode cX6_areAlike 73 = .ok (.aload_n 0, 1) := by decide +kernel
theorem dX6_areAlike_74 : decode cX6_areAlike 74 = .ok (.getfield 56, 3) := by decide +kernel
theorem dX6_areAlike_77 : decode cX6_areAlike 77 = .ok (.iload 4, 2) := by decide +kernel
theorem dX6_areAlike_79 : decode cX6_areAlike 79 = .ok (.iconst 2, 1) := by decide +kernel
theorem dX6_areAlike_80 : decode cX6_areAlike 80 = .ok (.iadd, 1) := by decide +kernel
theorem dX6_areAlike_81 : decode cX6_areAlike 81 = .ok (.iaload, 1) := by decide +kernel
theorem dX6_areAlike_82 : decode cX6_areAlike 82 = .ok (.aload_n 0, 1) := by decide +kernel
theorem dX6_areAlike_83 : decode cX6_areAlike 83 = .ok (.getfield 56, 3) := by decide +kernel
theorem dX6_areAlike_86 : decode cX6_areAlike 86 = .ok (.iload 5, 2) := by decide +kernel
theorem dX6_areAlike_88 : decode cX6_areAlike 88 = .ok (.iconst 3, 1) := by decide +kernel
theorem dX6_areAlike_89 : decode cX6_areAlike 89 = .ok (.iadd, 1) := by decide +kernel
theorem dX6_areAlike_90 : decode cX6_areAlike 90 = .ok (.iaload, 1) := by decide +kernel
theorem dX6_areAlike_91 : decode cX6_areAlike 91 = .ok (.if_icmp .gt 28, 3) := by decide +kernel
theorem dX6_areAlike_94 : decode cX6_areAlike 94 = .ok (.aload_n 0, 1) := by decide +kernel
theorem dX6_areAlike_95 : decode cX6_areAlike 95 = .ok (.getfield 56, 3) := by decide +kernel
theorem dX6_areAlike_98 : decode cX6_areAlike 98 = .ok (.iload 5, 2) := by decide +kernel
theorem dX6_areAlike_100 : decode cX6_areAlike 100 = .ok (.iconst 2, 1) := by decide +kernel
theorem dX6_areAlike_101 : decode cX6_areAlike 101 = .ok (.iadd, 1) := by decide +kernel
theorem dX6_areAlike_102 : decode cX6_areAlike 102 = .ok (.iaload, 1) := by decide +kernel
theorem dX6_areAlike_103 : decode cX6_areAlike 103 = .ok (.aload_n 0, 1) := by decide +kernel
theorem dX6_areAlike_104 : decode cX6_areAlike 104 = .ok (.getfield 56, 3) := by decide +kernel
theorem dX6_areAlike_107 : decode cX6_areAlike 107 = .ok (.iload 4, 2) := by decide +kernel
theorem dX6_areAlike_109 : decode cX6_areAlike 109 = .ok (.iconst 3, 1) := by decide +kernel
theorem dX6_areAlike_110 : decode cX6_areAlike 110 = .ok (.iadd, 1) := by decide +kernel
theorem dX6_areAlike_111 : decode cX6_areAlike 111 = .ok (.iaload, 1) := by decide +kernel
theorem dX6_areAlike_112 : decode cX6_areAlike 112 = .ok (.if_icmp .gt 7, 3) := by decide +kernel
theorem dX6_areAlike_115 : decode cX6_areAlike 115 = .ok (.iconst 1, 1) := by decide +kernel
theorem dX6_areAlike_116 : decode cX6_areAlike 116 = .ok (.goto 4, 3) := by decide +kernel
theorem dX6_areAlike_119 : decode cX6_areAlike 119 = .ok (.iconst 0, 1) := by decide +kernel
theorem dX6_areAlike_120 : decode cX6_areAlike 120 = .ok (.istore 7, 2) := by decide +kernel
theorem dX6_areAlike_122 : decode cX6_areAlike 122 = .ok (.aload_n 0, 1) := by decide +kernel
theorem dX6_areAlike_123 : decode cX6_areAlike 123 = .ok (.getfield 56, 3) := by decide +kernel
theorem dX6_areAlike_126 : decode cX6_areAlike 126 = .ok (.iload 4, 2) := by decide +kernel
theorem dX6_areAlike_128 : decode cX6_areAlike 128 = .ok (.iconst 4, 1) := by decide +kernel
theorem dX6_areAlike_129 : decode cX6_areAlike 129 = .ok (.iadd, 1) := by decide +kernel
theorem dX6_areAlike_130 : decode cX6_areAlike 130 = .ok (.iaload, 1) := by decide +kernel
theorem dX6_areAlike_131 : decode cX6_areAlike 131 = .ok (.aload_n 0, 1) := by decide +kernel
theorem dX6_areAlike_132 : decode cX6_areAlike 132 = .ok (.getfield 56, 3) := by decide +kernel
theorem dX6_areAlike_135 : decode cX6_areAlike 135 = .ok (.iload 5, 2) := by decide +kernel
theorem dX6_areAlike_137 : decode cX6_areAlike 137 = .ok (.iconst 4, 1) := by decide +kernel
theorem dX6_areAlike_138 : decode cX6_areAlike 138 = .ok (.iadd, 1) := by decide +kernel
theorem dX6_areAlike_139 : decode cX6_areAlike 139 = .ok (.iaload, 1) := by decide +kernel
theorem dX6_areAlike_140 : decode cX6_areAlike 140 = .ok (.if_icmp .eq 27, 3) := by decide +kernel
theorem dX6_areAlike_143 : decode cX6_areAlike 143 = .ok (.aload_n 0, 1) := by decide +kernel
theorem dX6_areAlike_144 : decode cX6_areAlike 144 = .ok (.getfield 56, 3) := by decide +kernel
theorem dX6_areAlike_147 : decode cX6_areAlike 147 = .ok (.iload 4, 2) := by decide +kernel
theorem dX6_areAlike_149 : decode cX6_areAlike 149 = .ok (.iconst 4, 1) := by decide +kernel
theorem dX6_areAlike_150 : decode cX6_areAlike 150 = .ok (.iadd, 1) := by decide +kernel
theorem dX6_areAlike_151 : decode cX6_areAlike 151 = .ok (.iaload, 1) := by decide +kernel
theorem dX6_areAlike_152 : decode cX6_areAlike 152 = .ok (.ifCond .eq 15, 3) := by decide +kernel
theorem dX6_areAlike_155 : decode cX6_areAlike 155 = .ok (.aload_n 0, 1) := by decide +kernel
theorem dX6_areAlike_156 : decode cX6_areAlike 156 = .ok (.getfield 56, 3) := by decide +kernel
theorem dX6_areAlike_159 : decode cX6_areAlike 159 = .ok (.iload 5, 2) := by decide +kernel
theorem dX6_areAlike_161 : decode cX6_areAlike 161 = .ok (.iconst 4, 1) := by decide +kernel
theorem dX6_areAlike_162 : decode cX6_areAlike 162 = .ok (.iadd, 1) := by decide +kernel
theorem dX6_areAlike_163 : decode cX6_areAlike 163 = .ok (.iaload, 1) := by decide +kernel
theorem dX6_areAlike_164 : decode cX6_areAlike 164 = .ok (.ifCond .ne 7, 3) := by decide +kernel
theorem dX6_areAlike_167 : decode cX6_areAlike 167 = .ok (.iconst 1, 1) := by decide +kernel
theorem dX6_areAlike_168 : decode cX6_areAlike 168 = .ok (.goto 4, 3) := by decide +kernel
theorem dX6_areAlike_171 : decode cX6_areAlike 171 = .ok (.iconst 0, 1) := by decide +kernel
theorem dX6_areAlike_172 : decode cX6_areAlike 172 = .ok (.istore 8, 2) := by decide +kernel
theorem dX6_areAlike_174 : decode cX6_areAlike 174 = .ok (.iload 6, 2) := by decide +kernel
theorem dX6_areAlike_176 : decode cX6_areAlike 176 = .ok (.ifCond .ne 17, 3) := by decide +kernel
theorem dX6_areAlike_179 : decode cX6_areAlike 179 = .ok (.iload 7, 2) := by decide +kernel
theorem dX6_areAlike_181 : decode cX6_areAlike 181 = .ok (.ifCond .eq 12, 3) := by decide +kernel
theorem dX6_areAlike_184 : decode cX6_areAlike 184 = .ok (.iload 8, 2) := by decide +kernel
theorem dX6_areAlike_186 : decode cX6_areAlike 186 = .ok (.ifCond .eq 7, 3) := by decide +kernel
theorem dX6_areAlike_189 : decode cX6_areAlike 189 = .ok (.iconst 1, 1) := by decide +kernel
theorem dX6_areAlike_190 : decode cX6_areAlike 190 = .ok (.goto 4, 3) := by decide +kernel
theorem dX6_areAlike_193 : decode cX6_areAlike 193 = .ok (.iconst 0, 1) := by decide +kernel
theorem dX6_areAlike_194 : decode cX6_areAlike 194 = .ok (.ireturn, 1) := by decide +kernel
theorem dX6_alike_0 : decode cX6_alike 0 = .ok (.aload_n 0, 1) := by decide +kernel
theorem dX6_alike_1 : decode cX6_alike 1 = .ok (.iload_n 1, 1) := by decide +kernel
theorem dX6_alike_2 : decode cX6_alike 2 = .ok (.invokevirtual 190, 3) := by decide +kernel
theorem dX6_alike_5 : decode cX6_alike 5 = .ok (.ifCond .eq 16, 3) := by decide +kernel
theorem dX6_alike_8 : decode cX6_alike 8 = .ok (.aload_n 0, 1) := by decide +kernel
theorem dX6_alike_9 : decode cX6_alike 9 = .ok (.iload_n 2, 1) := by decide +kernel
theorem dX6_alike_10 : decode cX6_alike 10 = .ok (.invokevirtual 190, 3) := by decide +kernel
theorem dX6_alike_13 : decode cX6_alike 13 = .ok (.ifCond .eq 8, 3) := by decide +kernel
theorem dX6_alike_16 : decode cX6_alike 16 = .ok (.iload_n 1, 1) := by decide +kernel
theorem dX6_alike_17 : decode cX6_alike 17 = .ok (.iload_n 2, 1) := by decide +kernel
theorem dX6_alike_18 : decode cX6_alike 18 = .ok (.if_icmp .ne 5, 3) := by decide +kernel
theorem dX6_alike_21 : decode cX6_alike 21 = .ok (.iconst (-1), 1) := by decide +kernel
theorem dX6_alike_22 : decode cX6_alike 22 = .ok (.ireturn, 1) := by decide +kernel
theorem dX6_alike_23 : decode cX6_alike 23 = .ok (.aload_n 0, 1) := by decide +kernel
theorem dX6_alike_24 : decode cX6_alike 24 = .ok (.iload_n 1, 1) := by decide +kernel
theorem dX6_alike_25 : decode cX6_alike 25 = .ok (.iload_n 2, 1) := by decide +kernel
theorem dX6_alike_26 : decode cX6_alike 26 = .ok (.invokevirtual 197, 3) := by decide +kernel
theorem dX6_alike_29 : decode cX6_alike 29 = .ok (.ifCond .eq 7, 3) := by decide +kernel
theorem dX6_alike_32 : decode cX6_alike 32 = .ok (.iconst 1, 1) := by decide +kernel
theorem dX6_alike_33 : decode cX6_alike 33 = .ok (.goto 4, 3) := by decide +kernel
theorem dX6_alike_36 : decode cX6_alike 36 = .ok (.iconst 0, 1) := by decide +kernel
theorem dX6_alike_37 : decode cX6_alike 37 = .ok (.ireturn, 1) := by decide +kernel
theorem dX6_mayJoin_0 : decode cX6_mayJoin 0 = .ok (.iconst 0, 1) := by decide +kernel
theorem dX6_mayJoin_1 : decode cX6_mayJoin 1 = .ok (.istore_n 2, 1) := by decide +kernel
theorem dX6_mayJoin_2 : decode cX6_mayJoin 2 = .ok (.iload_n 2, 1) := by decide +kernel
theorem dX6_mayJoin_3 : decode cX6_mayJoin 3 = .ok (.iload_n 1, 1) := by decide +kernel
theorem dX6_mayJoin_4 : decode cX6_mayJoin 4 = .ok (.if_icmp .ge 35, 3) := by decide +kernel
theorem dX6_mayJoin_7 : decode cX6_mayJoin 7 = .ok (.aload_n 0, 1) := by decide +kernel
theorem dX6_mayJoin_8 : decode cX6_mayJoin 8 = .ok (.getfield 83, 3) := by decide +kernel
theorem dX6_mayJoin_11 : decode cX6_mayJoin 11 = .ok (.iload_n 2, 1) := by decide +kernel
theorem dX6_mayJoin_12 : decode cX6_mayJoin 12 = .ok (.iaload, 1) := by decide +kernel
theorem dX6_mayJoin_13 : decode cX6_mayJoin 13 = .ok (.aload_n 0, 1) := by decide +kernel
theorem dX6_mayJoin_14 : decode cX6_mayJoin 14 = .ok (.getfield 83, 3) := by decide +kernel
theorem dX6_mayJoin_17 : decode cX6_mayJoin 17 = .ok (.iload_n 1, 1) := by decide +kernel
theorem dX6_mayJoin_18 : decode cX6_mayJoin 18 = .ok (.iaload, 1) := by decide +kernel
theorem dX6_mayJoin_19 : decode cX6_mayJoin 19 = .ok (.if_icmp .ne 14, 3) := by decide +kernel
theorem dX6_mayJoin_22 : decode cX6_mayJoin 22 = .ok (.aload_n 0, 1) := by decide +kernel
theorem dX6_mayJoin_23 : decode cX6_mayJoin 23 = .ok (.iload_n 2, 1) := by decide +kernel
theorem dX6_mayJoin_24 : decode cX6_mayJoin 24 = .ok (.iload_n 1, 1) := by decide +kernel
theorem dX6_mayJoin_25 : decode cX6_mayJoin 25 = .ok (.invokevirtual 197, 3) := by decide +kernel
theorem dX6_mayJoin_28 : decode cX6_mayJoin 28 = .ok (.ifCond .ne 5, 3) := by decide +kernel
theorem dX6_mayJoin_31 : decode cX6_mayJoin 31 = .ok (.iconst 0, 1) := by decide +kernel
theorem dX6_mayJoin_32 : decode cX6_mayJoin 32 = .ok (.ireturn, 1) := by decide +kernel
theorem dX6_mayJoin_33 : decode cX6_mayJoin 33 = .ok (.iinc 2 1, 3) := by decide +kernel
theorem dX6_mayJoin_36 : decode cX6_mayJoin 36 = .ok (.goto (-34), 3) := by decide +kernel
theorem dX6_mayJoin_39 : decode cX6_mayJoin 39 = .ok (.iconst 1, 1) := by decide +kernel
theorem dX6_mayJoin_40 : decode cX6_mayJoin 40 = .ok (.ireturn, 1) := by decide +kernel
theorem dX6_findJoining_0 : decode cX6_findJoining 0 = .ok (.iconst 0, 1) := by decide +kernel
theorem dX6_findJoining_1 : decode cX6_findJoining 1 = .ok (.istore_n 2, 1) := by decide +kernel
theorem dX6_findJoining_2 : decode cX6_findJoining 2 = .ok (.aload_n 0, 1) := by decide +kernel
theorem dX6_findJoining_3 : decode cX6_findJoining 3 = .ok (.getfield 83, 3) := by decide +kernel
theorem dX6_findJoining_6 : decode cX6_findJoining 6 = .ok (.iconst 0, 1) := by decide +kernel
theorem dX6_findJoining_7 : decode cX6_findJoining 7 = .ok (.iconst 0, 1) := by decide +kernel
theorem dX6_findJoining_8 : decode cX6_findJoining 8 = .ok (.iastore, 1) := by decide +kernel
theorem dX6_findJoining_9 : decode cX6_findJoining 9 = .ok (.aload_n 0, 1) := by decide +kernel
theorem dX6_findJoining_10 : decode cX6_findJoining 10 = .ok (.getfield 86, 3) := by decide +kernel
theorem dX6_findJoining_13 : decode cX6_findJoining 13 = .ok (.iconst 0, 1) := by decide +kernel
theorem dX6_findJoining_14 : decode cX6_findJoining 14 = .ok (.iconst 0, 1) := by decide +kernel
theorem dX6_findJoining_15 : decode cX6_findJoining 15 = .ok (.iastore, 1) := by decide +kernel
theorem dX6_findJoining_16 : decode cX6_findJoining 16 = .ok (.iload_n 2, 1) := by decide +kernel
theorem dX6_findJoining_17 : decode cX6_findJoining 17 = .ok (.ifCond .lt 148, 3) := by decide +kernel
theorem dX6_findJoining_20 : decode cX6_findJoining 20 = .ok (.iload_n 2, 1) := by decide +kernel
theorem dX6_findJoining_21 : decode cX6_findJoining 21 = .ok (.aload_n 0, 1) := by decide +kernel
theorem dX6_findJoining_22 : decode cX6_findJoining 22 = .ok (.getfield 184, 3) := by decide +kernel
theorem dX6_findJoining_25 : decode cX6_findJoining 25 = .ok (.if_icmp .ge 140, 3) := by decide +kernel
theorem dX6_findJoining_28 : decode cX6_findJoining 28 = .ok (.aload_n 0, 1) := by decide +kernel
theorem dX6_findJoining_29 : decode cX6_findJoining 29 = .ok (.getfield 86, 3) := by decide +kernel
theorem dX6_findJoining_32 : decode cX6_findJoining 32 = .ok (.iload_n 2, 1) := by decide +kernel
theorem dX6_findJoining_33 : decode cX6_findJoining 33 = .ok (.iaload, 1) := by decide +kernel
theorem dX6_findJoining_34 : decode cX6_findJoining 34 = .ok (.iload_n 1, 1) := by decide +kernel
theorem dX6_findJoining_35 : decode cX6_findJoining 35 = .ok (.if_icmp .ge 12, 3) := by decide +kernel
theorem dX6_findJoining_38 : decode cX6_findJoining 38 = .ok (.aload_n 0, 1) := by decide +kernel
theorem dX6_findJoining_39 : decode cX6_findJoining 39 = .ok (.getfield 86, 3) := by decide +kernel
theorem dX6_findJoining_42 : decode cX6_findJoining 42 = .ok (.iload_n 2, 1) := by decide +kernel
theorem dX6_findJoining_43 : decode cX6_findJoining 43 = .ok (.iaload, 1) := by decide +kernel
theorem dX6_findJoining_44 : decode cX6_findJoining 44 = .ok (.goto 6, 3) := by decide +kernel
theorem dX6_findJoining_47 : decode cX6_findJoining 47 = .ok (.iload_n 1, 1) := by decide +kernel
theorem dX6_findJoining_48 : decode cX6_findJoining 48 = .ok (.iconst 1, 1) := by decide +kernel
theorem dX6_findJoining_49 : decode cX6_findJoining 49 = .ok (.isub, 1) := by decide +kernel
theorem dX6_findJoining_50 : decode cX6_findJoining 50 = .ok (.istore_n 3, 1) := by decide +kernel
theorem dX6_findJoining_51 : decode cX6_findJoining 51 = .ok (.aload_n 0, 1) := by decide +kernel
theorem dX6_findJoining_52 : decode cX6_findJoining 52 = .ok (.getfield 83, 3) := by decide +kernel
theorem dX6_findJoining_55 : decode cX6_findJoining 55 = .ok (.iload_n 2, 1) := by decide +kernel
theorem dX6_findJoining_56 : decode cX6_findJoining 56 = .ok (.iaload, 1) := by decide +kernel
theorem dX6_findJoining_57 : decode cX6_findJoining 57 = .ok (.iload_n 3, 1) := by decide +kernel
theorem dX6_findJoining_58 : decode cX6_findJoining 58 = .ok (.if_icmp .gt 24, 3) := by decide +kernel
theorem dX6_findJoining_61 : decode cX6_findJoining 61 = .ok (.aload_n 0, 1) := by decide +kernel
theorem dX6_findJoining_62 : decode cX6_findJoining 62 = .ok (.iload_n 2, 1) := by decide +kernel
theorem dX6_findJoining_63 : decode cX6_findJoining 63 = .ok (.invokevirtual 201, 3) := by decide +kernel
theorem dX6_findJoining_66 : decode cX6_findJoining 66 = .ok (.ifCond .ne 16, 3) := by decide +kernel
theorem dX6_findJoining_69 : decode cX6_findJoining 69 = .ok (.aload_n 0, 1) := by decide +kernel
theorem dX6_findJoining_70 : decode cX6_findJoining 70 = .ok (.getfield 83, 3) := by decide +kernel
theorem dX6_findJoining_73 : decode cX6_findJoining 73 = .ok (.iload_n 2, 1) := by decide +kernel
theorem dX6_findJoining_74 : decode cX6_findJoining 74 = .ok (.dup2, 1) := by decide +kernel
theorem dX6_findJoining_75 : decode cX6_findJoining 75 = .ok (.iaload, 1) := by decide +kernel
theorem dX6_findJoining_76 : decode cX6_findJoining 76 = .ok (.iconst 1, 1) := by decide +kernel
theorem dX6_findJoining_77 : decode cX6_findJoining 77 = .ok (.iadd, 1) := by decide +kernel
theorem dX6_findJoining_78 : decode cX6_findJoining 78 = .ok (.iastore, 1) := by decide +kernel
theorem dX6_findJoining_79 : decode cX6_findJoining 79 = .ok (.goto (-28), 3) := by decide +kernel
theorem dX6_findJoining_82 : decode cX6_findJoining 82 = .ok (.aload_n 0, 1) := by decide +kernel
theorem dX6_findJoining_83 : decode cX6_findJoining 83 = .ok (.getfield 83, 3) := by decide +kernel
theorem dX6_findJoining_86 : decode cX6_findJoining 86 = .ok (.iload_n 2, 1) := by decide +kernel
theorem dX6_findJoining_87 : decode cX6_findJoining 87 = .ok (.iaload, 1) := by decide +kernel
theorem dX6_findJoining_88 : decode cX6_findJoining 88 = .ok (.iload_n 3, 1) := by decide +kernel
theorem dX6_findJoining_89 : decode cX6_findJoining 89 = .ok (.if_icmp .gt 56, 3) := by decide +kernel
theorem dX6_findJoining_92 : decode cX6_findJoining 92 = .ok (.aload_n 0, 1) := by decide +kernel
theorem dX6_findJoining_93 : decode cX6_findJoining 93 = .ok (.getfield 86, 3) := by decide +kernel
theorem dX6_findJoining_96 : decode cX6_findJoining 96 = .ok (.iload_n 2, 1) := by decide +kernel
theorem dX6_findJoining_97 : decode cX6_findJoining 97 = .ok (.iconst 1, 1) := by decide +kernel
theorem dX6_findJoining_98 : decode cX6_findJoining 98 = .ok (.iadd, 1) := by decide +kernel
theorem dX6_findJoining_99 : decode cX6_findJoining 99 = .ok (.aload_n 0, 1) := by decide +kernel
theorem dX6_findJoining_100 : decode cX6_findJoining 100 = .ok (.getfield 83, 3) := by decide +kernel
theorem dX6_findJoining_103 : decode cX6_findJoining 103 = .ok (.iload_n 2, 1) := by decide +kernel
theorem dX6_findJoining_104 : decode cX6_findJoining 104 = .ok (.iaload, 1) := by decide +kernel
theorem dX6_findJoining_105 : decode cX6_findJoining 105 = .ok (.aload_n 0, 1) := by decide +kernel
theorem dX6_findJoining_106 : decode cX6_findJoining 106 = .ok (.getfield 86, 3) := by decide +kernel
theorem dX6_findJoining_109 : decode cX6_findJoining 109 = .ok (.iload_n 2, 1) := by decide +kernel
theorem dX6_findJoining_110 : decode cX6_findJoining 110 = .ok (.iaload, 1) := by decide +kernel
theorem dX6_findJoining_111 : decode cX6_findJoining 111 = .ok (.if_icmp .ne 14, 3) := by decide +kernel
theorem dX6_findJoining_114 : decode cX6_findJoining 114 = .ok (.aload_n 0, 1) := by decide +kernel
theorem dX6_findJoining_115 : decode cX6_findJoining 115 = .ok (.getfield 86, 3) := by decide +kernel
theorem dX6_findJoining_118 : decode cX6_findJoining 118 = .ok (.iload_n 2, 1) := by decide +kernel
theorem dX6_findJoining_119 : decode cX6_findJoining 119 = .ok (.iaload, 1) := by decide +kernel
theorem dX6_findJoining_120 : decode cX6_findJoining 120 = .ok (.iconst 1, 1) := by decide +kernel
theorem dX6_findJoining_121 : decode cX6_findJoining 121 = .ok (.iadd, 1) := by decide +kernel
theorem dX6_findJoining_122 : decode cX6_findJoining 122 = .ok (.goto 9, 3) := by decide +kernel
theorem dX6_findJoining_125 : decode cX6_findJoining 125 = .ok (.aload_n 0, 1) := by decide +kernel
theorem dX6_findJoining_126 : decode cX6_findJoining 126 = .ok (.getfield 86, 3) := by decide +kernel
theorem dX6_findJoining_129 : decode cX6_findJoining 129 = .ok (.iload_n 2, 1) := by decide +kernel
theorem dX6_findJoining_130 : decode cX6_findJoining 130 = .ok (.iaload, 1) := by decide +kernel
theorem dX6_findJoining_131 : decode cX6_findJoining 131 = .ok (.iastore, 1) := by decide +kernel
theorem dX6_findJoining_132 : decode cX6_findJoining 132 = .ok (.iinc 2 1, 3) := by decide +kernel
theorem dX6_findJoining_135 : decode cX6_findJoining 135 = .ok (.aload_n 0, 1) := by decide +kernel
theorem dX6_findJoining_136 : decode cX6_findJoining 136 = .ok (.getfield 83, 3) := by decide +kernel
theorem dX6_findJoining_139 : decode cX6_findJoining 139 = .ok (.iload_n 2, 1) := by decide +kernel
theorem dX6_findJoining_140 : decode cX6_findJoining 140 = .ok (.iconst 0, 1) := by decide +kernel
theorem dX6_findJoining_141 : decode cX6_findJoining 141 = .ok (.iastore, 1) := by decide +kernel
theorem dX6_findJoining_142 : decode cX6_findJoining 142 = .ok (.goto 20, 3) := by decide +kernel
theorem dX6_findJoining_145 : decode cX6_findJoining 145 = .ok (.iinc 2 (-1), 3) := by decide +kernel
theorem dX6_findJoining_148 : decode cX6_findJoining 148 = .ok (.iload_n 2, 1) := by decide +kernel
theorem dX6_findJoining_149 : decode cX6_findJoining 149 = .ok (.ifCond .lt 13, 3) := by decide +kernel
theorem dX6_findJoining_152 : decode cX6_findJoining 152 = .ok (.aload_n 0, 1) := by decide +kernel
theorem dX6_findJoining_153 : decode cX6_findJoining 153 = .ok (.getfield 83, 3) := by decide +kernel
theorem dX6_findJoining_156 : decode cX6_findJoining 156 = .ok (.iload_n 2, 1) := by decide +kernel
theorem dX6_findJoining_157 : decode cX6_findJoining 157 = .ok (.dup2, 1) := by decide +kernel
theorem dX6_findJoining_158 : decode cX6_findJoining 158 = .ok (.iaload, 1) := by decide +kernel
theorem dX6_findJoining_159 : decode cX6_findJoining 159 = .ok (.iconst 1, 1) := by decide +kernel
theorem dX6_findJoining_160 : decode cX6_findJoining 160 = .ok (.iadd, 1) := by decide +kernel
theorem dX6_findJoining_161 : decode cX6_findJoining 161 = .ok (.iastore, 1) := by decide +kernel
theorem dX6_findJoining_162 : decode cX6_findJoining 162 = .ok (.goto (-146), 3) := by decide +kernel
theorem dX6_findJoining_165 : decode cX6_findJoining 165 = .ok (.iload_n 2, 1) := by decide +kernel
theorem dX6_findJoining_166 : decode cX6_findJoining 166 = .ok (.ifCond .lt 7, 3) := by decide +kernel
theorem dX6_findJoining_169 : decode cX6_findJoining 169 = .ok (.iconst 1, 1) := by decide +kernel
theorem dX6_findJoining_170 : decode cX6_findJoining 170 = .ok (.goto 4, 3) := by decide +kernel
theorem dX6_findJoining_173 : decode cX6_findJoining 173 = .ok (.iconst 0, 1) := by decide +kernel
theorem dX6_findJoining_174 : decode cX6_findJoining 174 = .ok (.ireturn, 1) := by decide +kernel
theorem dX6_join_0 : decode cX6_join 0 = .ok (.aload_n 0, 1) := by decide +kernel
theorem dX6_join_1 : decode cX6_join 1 = .ok (.getfield 184, 3) := by decide +kernel
theorem dX6_join_4 : decode cX6_join 4 = .ok (.ifCond .ne 7, 3) := by decide +kernel
theorem dX6_join_7 : decode cX6_join 7 = .ok (.iconst 0, 1) := by decide +kernel
theorem dX6_join_8 : decode cX6_join 8 = .ok (.goto 4, 3) := by decide +kernel
theorem dX6_join_11 : decode cX6_join 11 = .ok (.iconst 1, 1) := by decide +kernel
theorem dX6_join_12 : decode cX6_join 12 = .ok (.istore_n 1, 1) := by decide +kernel
theorem dX6_join_13 : decode cX6_join 13 = .ok (.aload_n 0, 1) := by decide +kernel
theorem dX6_join_14 : decode cX6_join 14 = .ok (.getfield 184, 3) := by decide +kernel
theorem dX6_join_17 : decode cX6_join 17 = .ok (.ifCond .le 17, 3) := by decide +kernel
theorem dX6_join_20 : decode cX6_join 20 = .ok (.aload_n 0, 1) := by decide +kernel
theorem dX6_join_21 : decode cX6_join 21 = .ok (.iload_n 1, 1) := by decide +kernel
theorem dX6_join_22 : decode cX6_join 22 = .ok (.invokevirtual 204, 3) := by decide +kernel
theorem dX6_join_25 : decode cX6_join 25 = .ok (.ifCond .ne 9, 3) := by decide +kernel
theorem dX6_join_28 : decode cX6_join 28 = .ok (.iinc 1 1, 3) := by decide +kernel
theorem dX6_join_31 : decode cX6_join 31 = .ok (.goto (-18), 3) := by decide +kernel
theorem dX6_join_34 : decode cX6_join 34 = .ok (.iload_n 1, 1) := by decide +kernel
theorem dX6_join_35 : decode cX6_join 35 = .ok (.ireturn, 1) := by decide +kernel
theorem dX6_group_0 : decode cX6_group 0 = .ok (.aload_n 0, 1) := by decide +kernel
theorem dX6_group_1 : decode cX6_group 1 = .ok (.iload_n 1, 1) := by decide +kernel
theorem dX6_group_2 : decode cX6_group 2 = .ok (.invokevirtual 190, 3) := by decide +kernel
theorem dX6_group_5 : decode cX6_group 5 = .ok (.ifCond .ne 5, 3) := by decide +kernel
theorem dX6_group_8 : decode cX6_group 8 = .ok (.iconst (-1), 1) := by decide +kernel
theorem dX6_group_9 : decode cX6_group 9 = .ok (.ireturn, 1) := by decide +kernel
theorem dX6_group_10 : decode cX6_group 10 = .ok (.aload_n 0, 1) := by decide +kernel
theorem dX6_group_11 : decode cX6_group 11 = .ok (.invokevirtual 207, 3) := by decide +kernel
theorem dX6_group_14 : decode cX6_group 14 = .ok (.istore_n 2, 1) := by decide +kernel
theorem dX6_group_15 : decode cX6_group 15 = .ok (.aload_n 0, 1) := by decide +kernel
theorem dX6_group_16 : decode cX6_group 16 = .ok (.getfield 83, 3) := by decide +kernel
theorem dX6_group_19 : decode cX6_group 19 = .ok (.iload_n 1, 1) := by decide +kernel
theorem dX6_group_20 : decode cX6_group 20 = .ok (.iaload, 1) := by decide +kernel
theorem dX6_group_21 : decode cX6_group 21 = .ok (.ireturn, 1) := by decide +kernel
theorem dX6_groups_0 : decode cX6_groups 0 = .ok (.aload_n 0, 1) := by decide +kernel
theorem dX6_groups_1 : decode cX6_groups 1 = .ok (.invokevirtual 207, 3) := by decide +kernel
theorem dX6_groups_4 : decode cX6_groups 4 = .ok (.ireturn, 1) := by decide +kernel
theorem dX6_entriesThat_0 : decode cX6_entriesThat 0 = .ok (.iconst 0, 1) := by decide +kernel
theorem dX6_entriesThat_1 : decode cX6_entriesThat 1 = .ok (.istore_n 2, 1) := by decide +kernel
theorem dX6_entriesThat_2 : decode cX6_entriesThat 2 = .ok (.iconst 0, 1) := by decide +kernel
theorem dX6_entriesThat_3 : decode cX6_entriesThat 3 = .ok (.istore_n 3, 1) := by decide +kernel
theorem dX6_entriesThat_4 : decode cX6_entriesThat 4 = .ok (.iload_n 3, 1) := by decide +kernel
theorem dX6_entriesThat_5 : decode cX6_entriesThat 5 = .ok (.aload_n 0, 1) := by decide +kernel
theorem dX6_entriesThat_6 : decode cX6_entriesThat 6 = .ok (.getfield 159, 3) := by decide +kernel
theorem dX6_entriesThat_9 : decode cX6_entriesThat 9 = .ok (.if_icmp .ge 42, 3) := by decide +kernel
theorem dX6_entriesThat_12 : decode cX6_entriesThat 12 = .ok (.iload_n 2, 1) := by decide +kernel
theorem dX6_entriesThat_13 : decode cX6_entriesThat 13 = .ok (.iload_n 1, 1) := by decide +kernel
theorem dX6_entriesThat_14 : decode cX6_entriesThat 14 = .ok (.ifCond .eq 15, 3) := by decide +kernel
theorem dX6_entriesThat_17 : decode cX6_entriesThat 17 = .ok (.aload_n 0, 1) := by decide +kernel
theorem dX6_entriesThat_18 : decode cX6_entriesThat 18 = .ok (.getfield 52, 3) := by decide +kernel
theorem dX6_entriesThat_21 : decode cX6_entriesThat 21 = .ok (.iload_n 3, 1) := by decide +kernel
theorem dX6_entriesThat_22 : decode cX6_entriesThat 22 = .ok (.baload, 1) := by decide +kernel
theorem dX6_entriesThat_23 : decode cX6_entriesThat 23 = .ok (.ifCond .eq 19, 3) := by decide +kernel
theorem dX6_entriesThat_26 : decode cX6_entriesThat 26 = .ok (.goto 12, 3) := by decide +kernel
theorem dX6_entriesThat_29 : decode cX6_entriesThat 29 = .ok (.aload_n 0, 1) := by decide +kernel
theorem dX6_entriesThat_30 : decode cX6_entriesThat 30 = .ok (.getfield 80, 3) := by decide +kernel
theorem dX6_entriesThat_33 : decode cX6_entriesThat 33 = .ok (.iload_n 3, 1) := by decide +kernel
theorem dX6_entriesThat_34 : decode cX6_entriesThat 34 = .ok (.baload, 1) := by decide +kernel
theorem dX6_entriesThat_35 : decode cX6_entriesThat 35 = .ok (.ifCond .eq 7, 3) := by decide +kernel
theorem dX6_entriesThat_38 : decode cX6_entriesThat 38 = .ok (.iconst 1, 1) := by decide +kernel
theorem dX6_entriesThat_39 : decode cX6_entriesThat 39 = .ok (.goto 4, 3) := by decide +kernel
theorem dX6_entriesThat_42 : decode cX6_entriesThat 42 = .ok (.iconst 0, 1) := by decide +kernel
theorem dX6_entriesThat_43 : decode cX6_entriesThat 43 = .ok (.iadd, 1) := by decide +kernel
theorem dX6_entriesThat_44 : decode cX6_entriesThat 44 = .ok (.istore_n 2, 1) := by decide +kernel
theorem dX6_entriesThat_45 : decode cX6_entriesThat 45 = .ok (.iinc 3 1, 3) := by decide +kernel
theorem dX6_entriesThat_48 : decode cX6_entriesThat 48 = .ok (.goto (-44), 3) := by decide +kernel
theorem dX6_entriesThat_51 : decode cX6_entriesThat 51 = .ok (.iload_n 2, 1) := by decide +kernel
theorem dX6_entriesThat_52 : decode cX6_entriesThat 52 = .ok (.ireturn, 1) := by decide +kernel
theorem dX6_standing_0 : decode cX6_standing 0 = .ok (.iconst 0, 1) := by decide +kernel
theorem dX6_standing_1 : decode cX6_standing 1 = .ok (.istore_n 1, 1) := by decide +kernel
theorem dX6_standing_2 : decode cX6_standing 2 = .ok (.iconst 0, 1) := by decide +kernel
theorem dX6_standing_3 : decode cX6_standing 3 = .ok (.istore_n 2, 1) := by decide +kernel
theorem dX6_standing_4 : decode cX6_standing 4 = .ok (.iload_n 2, 1) := by decide +kernel
theorem dX6_standing_5 : decode cX6_standing 5 = .ok (.aload_n 0, 1) := by decide +kernel
theorem dX6_standing_6 : decode cX6_standing 6 = .ok (.getfield 159, 3) := by decide +kernel
theorem dX6_standing_9 : decode cX6_standing 9 = .ok (.if_icmp .ge 26, 3) := by decide +kernel
theorem dX6_standing_12 : decode cX6_standing 12 = .ok (.iload_n 1, 1) := by decide +kernel
theorem dX6_standing_13 : decode cX6_standing 13 = .ok (.aload_n 0, 1) := by decide +kernel
theorem dX6_standing_14 : decode cX6_standing 14 = .ok (.getfield 77, 3) := by decide +kernel
theorem dX6_standing_17 : decode cX6_standing 17 = .ok (.iload_n 2, 1) := by decide +kernel
theorem dX6_standing_18 : decode cX6_standing 18 = .ok (.baload, 1) := by decide +kernel
theorem dX6_standing_19 : decode cX6_standing 19 = .ok (.ifCond .eq 7, 3) := by decide +kernel
theorem dX6_standing_22 : decode cX6_standing 22 = .ok (.iconst 1, 1) := by decide +kernel
theorem dX6_standing_23 : decode cX6_standing 23 = .ok (.goto 4, 3) := by decide +kernel
theorem dX6_standing_26 : decode cX6_standing 26 = .ok (.iconst 0, 1) := by decide +kernel
theorem dX6_standing_27 : decode cX6_standing 27 = .ok (.iadd, 1) := by decide +kernel
theorem dX6_standing_28 : decode cX6_standing 28 = .ok (.istore_n 1, 1) := by decide +kernel
theorem dX6_standing_29 : decode cX6_standing 29 = .ok (.iinc 2 1, 3) := by decide +kernel
theorem dX6_standing_32 : decode cX6_standing 32 = .ok (.goto (-28), 3) := by decide +kernel
theorem dX6_standing_35 : decode cX6_standing 35 = .ok (.iload_n 1, 1) := by decide +kernel
theorem dX6_standing_36 : decode cX6_standing 36 = .ok (.ireturn, 1) := by decide +kernel
theorem dX6_many_0 : decode cX6_many 0 = .ok (.aload_n 0, 1) := by decide +kernel
theorem dX6_many_1 : decode cX6_many 1 = .ok (.invokevirtual 178, 3) := by decide +kernel
theorem dX6_many_4 : decode cX6_many 4 = .ok (.iload_n 1, 1) := by decide +kernel
theorem dX6_many_5 : decode cX6_many 5 = .ok (.tableswitch 98 0 8 #[51, 56, 61, 66, 72, 78, 83, 88, 93], 51) := by decide +kernel
theorem dX6_many_56 : decode cX6_many 56 = .ok (.aload_n 0, 1) := by decide +kernel
theorem dX6_many_57 : decode cX6_many 57 = .ok (.getfield 105, 3) := by decide +kernel
theorem dX6_many_60 : decode cX6_many 60 = .ok (.ireturn, 1) := by decide +kernel
theorem dX6_many_61 : decode cX6_many 61 = .ok (.aload_n 0, 1) := by decide +kernel
theorem dX6_many_62 : decode cX6_many 62 = .ok (.getfield 149, 3) := by decide +kernel
theorem dX6_many_65 : decode cX6_many 65 = .ok (.ireturn, 1) := by decide +kernel
theorem dX6_many_66 : decode cX6_many 66 = .ok (.aload_n 0, 1) := by decide +kernel
theorem dX6_many_67 : decode cX6_many 67 = .ok (.getfield 159, 3) := by decide +kernel
theorem dX6_many_70 : decode cX6_many 70 = .ok (.ireturn, 1) := by decide +kernel
theorem dX6_many_71 : decode cX6_many 71 = .ok (.aload_n 0, 1) := by decide +kernel
theorem dX6_many_72 : decode cX6_many 72 = .ok (.iconst 1, 1) := by decide +kernel
theorem dX6_many_73 : decode cX6_many 73 = .ok (.invokevirtual 211, 3) := by decide +kernel
theorem dX6_many_76 : decode cX6_many 76 = .ok (.ireturn, 1) := by decide +kernel
theorem dX6_many_77 : decode cX6_many 77 = .ok (.aload_n 0, 1) := by decide +kernel
theorem dX6_many_78 : decode cX6_many 78 = .ok (.iconst 0, 1) := by decide +kernel
theorem dX6_many_79 : decode cX6_many 79 = .ok (.invokevirtual 211, 3) := by decide +kernel
theorem dX6_many_82 : decode cX6_many 82 = .ok (.ireturn, 1) := by decide +kernel
theorem dX6_many_83 : decode cX6_many 83 = .ok (.aload_n 0, 1) := by decide +kernel
theorem dX6_many_84 : decode cX6_many 84 = .ok (.invokevirtual 215, 3) := by decide +kernel
theorem dX6_many_87 : decode cX6_many 87 = .ok (.ireturn, 1) := by decide +kernel
theorem dX6_many_88 : decode cX6_many 88 = .ok (.aload_n 0, 1) := by decide +kernel
theorem dX6_many_89 : decode cX6_many 89 = .ok (.getfield 184, 3) := by decide +kernel
theorem dX6_many_92 : decode cX6_many 92 = .ok (.ireturn, 1) := by decide +kernel
theorem dX6_many_93 : decode cX6_many 93 = .ok (.aload_n 0, 1) := by decide +kernel
theorem dX6_many_94 : decode cX6_many 94 = .ok (.getfield 187, 3) := by decide +kernel
theorem dX6_many_97 : decode cX6_many 97 = .ok (.ireturn, 1) := by decide +kernel
theorem dX6_many_98 : decode cX6_many 98 = .ok (.aload_n 0, 1) := by decide +kernel
theorem dX6_many_99 : decode cX6_many 99 = .ok (.getfield 89, 3) := by decide +kernel
theorem dX6_many_102 : decode cX6_many 102 = .ok (.ireturn, 1) := by decide +kernel
theorem dX6_many_103 : decode cX6_many 103 = .ok (.iconst (-1), 1) := by decide +kernel
theorem dX6_many_104 : decode cX6_many 104 = .ok (.ireturn, 1) := by decide +kernel
