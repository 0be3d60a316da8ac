theorem dX10_agree_27 : decode cX10_agree 27 = .ok (.goto (-25), 3) := by decide +kernel
theorem dX10_agree_30 : decode cX10_agree 30 = .ok (.iconst 0, 1) := by decide +kernel
theorem dX10_agree_31 : decode cX10_agree 31 = .ok (.istore_n 2, 1) := by decide +kernel
theorem dX10_agree_32 : decode cX10_agree 32 = .ok (.iload_n 2, 1) := by decide +kernel
theorem dX10_agree_33 : decode cX10_agree 33 = .ok (.aload_n 0, 1) := by decide +kernel
theorem dX10_agree_34 : decode cX10_agree 34 = .ok (.getfield 78, 3) := by decide +kernel
theorem dX10_agree_37 : decode cX10_agree 37 = .ok (.if_icmp .ge 165, 3) := by decide +kernel
theorem dX10_agree_40 : decode cX10_agree 40 = .ok (.iload_n 1, 1) := by decide +kernel
theorem dX10_agree_41 : decode cX10_agree 41 = .ok (.iload_n 2, 1) := by decide +kernel
theorem dX10_agree_42 : decode cX10_agree 42 = .ok (.ishr, 1) := by decide +kernel
theorem dX10_agree_43 : decode cX10_agree 43 = .ok (.iconst 1, 1) := by decide +kernel
theorem dX10_agree_44 : decode cX10_agree 44 = .ok (.iand, 1) := by decide +kernel
theorem dX10_agree_45 : decode cX10_agree 45 = .ok (.iconst 1, 1) := by decide +kernel
theorem dX10_agree_46 : decode cX10_agree 46 = .ok (.if_icmp .ne 6, 3) := by decide +kernel
theorem dX10_agree_49 : decode cX10_agree 49 = .ok (.goto 147, 3) := by decide +kernel
theorem dX10_agree_52 : decode cX10_agree 52 = .ok (.aload_n 0, 1) := by decide +kernel
theorem dX10_agree_53 : decode cX10_agree 53 = .ok (.getfield 93, 3) := by decide +kernel
theorem dX10_agree_56 : decode cX10_agree 56 = .ok (.aload_n 0, 1) := by decide +kernel
theorem dX10_agree_57 : decode cX10_agree 57 = .ok (.getfield 81, 3) := by decide +kernel
theorem dX10_agree_60 : decode cX10_agree 60 = .ok (.iload_n 2, 1) := by decide +kernel
theorem dX10_agree_61 : decode cX10_agree 61 = .ok (.iaload, 1) := by decide +kernel
theorem dX10_agree_62 : decode cX10_agree 62 = .ok (.laload, 1) := by decide +kernel
theorem dX10_agree_63 : decode cX10_agree 63 = .ok (.aload_n 0, 1) := by decide +kernel
theorem dX10_agree_64 : decode cX10_agree 64 = .ok (.getfield 87, 3) := by decide +kernel
theorem dX10_agree_67 : decode cX10_agree 67 = .ok (.iload_n 2, 1) := by decide +kernel
theorem dX10_agree_68 : decode cX10_agree 68 = .ok (.iaload, 1) := by decide +kernel
theorem dX10_agree_69 : decode cX10_agree 69 = .ok (.i2l, 1) := by decide +kernel
theorem dX10_agree_70 : decode cX10_agree 70 = .ok (.ladd, 1) := by decide +kernel
theorem dX10_agree_71 : decode cX10_agree 71 = .ok (.aload_n 0, 1) := by decide +kernel
theorem dX10_agree_72 : decode cX10_agree 72 = .ok (.getfield 93, 3) := by decide +kernel
theorem dX10_agree_75 : decode cX10_agree 75 = .ok (.aload_n 0, 1) := by decide +kernel
theorem dX10_agree_76 : decode cX10_agree 76 = .ok (.getfield 84, 3) := by decide +kernel
theorem dX10_agree_79 : decode cX10_agree 79 = .ok (.iload_n 2, 1) := by decide +kernel
theorem dX10_agree_80 : decode cX10_agree 80 = .ok (.iaload, 1) := by decide +kernel
theorem dX10_agree_81 : decode cX10_agree 81 = .ok (.laload, 1) := by decide +kernel
theorem dX10_agree_82 : decode cX10_agree 82 = .ok (.lsub, 1) := by decide +kernel
theorem dX10_agree_83 : decode cX10_agree 83 = .ok (.lstore_n 3, 1) := by decide +kernel
theorem dX10_agree_84 : decode cX10_agree 84 = .ok (.aload_n 0, 1) := by decide +kernel
theorem dX10_agree_85 : decode cX10_agree 85 = .ok (.getfield 90, 3) := by decide +kernel
theorem dX10_agree_88 : decode cX10_agree 88 = .ok (.aload_n 0, 1) := by decide +kernel
theorem dX10_agree_89 : decode cX10_agree 89 = .ok (.getfield 81, 3) := by decide +kernel
theorem dX10_agree_92 : decode cX10_agree 92 = .ok (.iload_n 2, 1) := by decide +kernel
theorem dX10_agree_93 : decode cX10_agree 93 = .ok (.iaload, 1) := by decide +kernel
theorem dX10_agree_94 : decode cX10_agree 94 = .ok (.iaload, 1) := by decide +kernel
theorem dX10_agree_95 : decode cX10_agree 95 = .ok (.aload_n 0, 1) := by decide +kernel
theorem dX10_agree_96 : decode cX10_agree 96 = .ok (.getfield 90, 3) := by decide +kernel
theorem dX10_agree_99 : decode cX10_agree 99 = .ok (.aload_n 0, 1) := by decide +kernel
theorem dX10_agree_100 : decode cX10_agree 100 = .ok (.getfield 84, 3) := by decide +kernel
theorem dX10_agree_103 : decode cX10_agree 103 = .ok (.iload_n 2, 1) := by decide +kernel
theorem dX10_agree_104 : decode cX10_agree 104 = .ok (.iaload, 1) := by decide +kernel
theorem dX10_agree_105 : decode cX10_agree 105 = .ok (.iaload, 1) := by decide +kernel
theorem dX10_agree_106 : decode cX10_agree 106 = .ok (.if_icmp .ne 11, 3) := by decide +kernel
theorem dX10_agree_109 : decode cX10_agree 109 = .ok (.lload_n 3, 1) := by decide +kernel
theorem dX10_agree_110 : decode cX10_agree 110 = .ok (.lconst 0, 1) := by decide +kernel
theorem dX10_agree_111 : decode cX10_agree 111 = .ok (.lcmp, 1) := by decide +kernel
theorem dX10_agree_112 : decode cX10_agree 112 = .ok (.ifCond .eq 84, 3) := by decide +kernel
theorem dX10_agree_115 : decode cX10_agree 115 = .ok (.iconst 0, 1) := by decide +kernel
theorem dX10_agree_116 : decode cX10_agree 116 = .ok (.ireturn, 1) := by decide +kernel
theorem dX10_agree_117 : decode cX10_agree 117 = .ok (.aload_n 0, 1) := by decide +kernel
theorem dX10_agree_118 : decode cX10_agree 118 = .ok (.getfield 90, 3) := by decide +kernel
theorem dX10_agree_121 : decode cX10_agree 121 = .ok (.aload_n 0, 1) := by decide +kernel
theorem dX10_agree_122 : decode cX10_agree 122 = .ok (.getfield 84, 3) := by decide +kernel
theorem dX10_agree_125 : decode cX10_agree 125 = .ok (.iload_n 2, 1) := by decide +kernel
theorem dX10_agree_126 : decode cX10_agree 126 = .ok (.iaload, 1) := by decide +kernel
theorem dX10_agree_127 : decode cX10_agree 127 = .ok (.iaload, 1) := by decide +kernel
theorem dX10_agree_128 : decode cX10_agree 128 = .ok (.istore 5, 2) := by decide +kernel
theorem dX10_agree_130 : decode cX10_agree 130 = .ok (.aload_n 0, 1) := by decide +kernel
theorem dX10_agree_131 : decode cX10_agree 131 = .ok (.getfield 90, 3) := by decide +kernel
theorem dX10_agree_134 : decode cX10_agree 134 = .ok (.aload_n 0, 1) := by decide +kernel
theorem dX10_agree_135 : decode cX10_agree 135 = .ok (.getfield 81, 3) := by decide +kernel
theorem dX10_agree_138 : decode cX10_agree 138 = .ok (.iload_n 2, 1) := by decide +kernel
theorem dX10_agree_139 : decode cX10_agree 139 = .ok (.iaload, 1) := by decide +kernel
theorem dX10_agree_140 : decode cX10_agree 140 = .ok (.iaload, 1) := by decide +kernel
theorem dX10_agree_141 : decode cX10_agree 141 = .ok (.istore 6, 2) := by decide +kernel
theorem dX10_agree_143 : decode cX10_agree 143 = .ok (.iconst 0, 1) := by decide +kernel
theorem dX10_agree_144 : decode cX10_agree 144 = .ok (.istore 7, 2) := by decide +kernel
theorem dX10_agree_146 : decode cX10_agree 146 = .ok (.iload 7, 2) := by decide +kernel
theorem dX10_agree_148 : decode cX10_agree 148 = .ok (.aload_n 0, 1) := by decide +kernel
theorem dX10_agree_149 : decode cX10_agree 149 = .ok (.getfield 13, 3) := by decide +kernel
theorem dX10_agree_152 : decode cX10_agree 152 = .ok (.if_icmp .ge 44, 3) := by decide +kernel
theorem dX10_agree_155 : decode cX10_agree 155 = .ok (.aload_n 0, 1) := by decide +kernel
theorem dX10_agree_156 : decode cX10_agree 156 = .ok (.getfield 90, 3) := by decide +kernel
theorem dX10_agree_159 : decode cX10_agree 159 = .ok (.iload 7, 2) := by decide +kernel
theorem dX10_agree_161 : decode cX10_agree 161 = .ok (.iaload, 1) := by decide +kernel
theorem dX10_agree_162 : decode cX10_agree 162 = .ok (.iload 5, 2) := by decide +kernel
theorem dX10_agree_164 : decode cX10_agree 164 = .ok (.if_icmp .eq 6, 3) := by decide +kernel
theorem dX10_agree_167 : decode cX10_agree 167 = .ok (.goto 23, 3) := by decide +kernel
theorem dX10_agree_170 : decode cX10_agree 170 = .ok (.aload_n 0, 1) := by decide +kernel
theorem dX10_agree_171 : decode cX10_agree 171 = .ok (.getfield 90, 3) := by decide +kernel
theorem dX10_agree_174 : decode cX10_agree 174 = .ok (.iload 7, 2) := by decide +kernel
theorem dX10_agree_176 : decode cX10_agree 176 = .ok (.iload 6, 2) := by decide +kernel
theorem dX10_agree_178 : decode cX10_agree 178 = .ok (.iastore, 1) := by decide +kernel
theorem dX10_agree_179 : decode cX10_agree 179 = .ok (.aload_n 0, 1) := by decide +kernel
theorem dX10_agree_180 : decode cX10_agree 180 = .ok (.getfield 93, 3) := by decide +kernel
theorem dX10_agree_183 : decode cX10_agree 183 = .ok (.iload 7, 2) := by decide +kernel
theorem dX10_agree_185 : decode cX10_agree 185 = .ok (.dup2, 1) := by decide +kernel
theorem dX10_agree_186 : decode cX10_agree 186 = .ok (.laload, 1) := by decide +kernel
theorem dX10_agree_187 : decode cX10_agree 187 = .ok (.lload_n 3, 1) := by decide +kernel
theorem dX10_agree_188 : decode cX10_agree 188 = .ok (.ladd, 1) := by decide +kernel
theorem dX10_agree_189 : decode cX10_agree 189 = .ok (.lastore, 1) := by decide +kernel
theorem dX10_agree_190 : decode cX10_agree 190 = .ok (.iinc 7 1, 3) := by decide +kernel
theorem dX10_agree_193 : decode cX10_agree 193 = .ok (.goto (-47), 3) := by decide +kernel
theorem dX10_agree_196 : decode cX10_agree 196 = .ok (.iinc 2 1, 3) := by decide +kernel
theorem dX10_agree_199 : decode cX10_agree 199 = .ok (.goto (-167), 3) := by decide +kernel
theorem dX10_agree_202 : decode cX10_agree 202 = .ok (.iconst 1, 1) := by decide +kernel
theorem dX10_agree_203 : decode cX10_agree 203 = .ok (.ireturn, 1) := by decide +kernel
theorem dX10_ones_0 : decode cX10_ones 0 = .ok (.iconst 0, 1) := by decide +kernel
theorem dX10_ones_1 : decode cX10_ones 1 = .ok (.istore_n 2, 1) := by decide +kernel
theorem dX10_ones_2 : decode cX10_ones 2 = .ok (.iconst 0, 1) := by decide +kernel
theorem dX10_ones_3 : decode cX10_ones 3 = .ok (.istore_n 3, 1) := by decide +kernel
theorem dX10_ones_4 : decode cX10_ones 4 = .ok (.iload_n 3, 1) := by decide +kernel
theorem dX10_ones_5 : decode cX10_ones 5 = .ok (.bipush 14, 2) := by decide +kernel
theorem dX10_ones_7 : decode cX10_ones 7 = .ok (.if_icmp .ge 17, 3) := by decide +kernel
theorem dX10_ones_10 : decode cX10_ones 10 = .ok (.iload_n 2, 1) := by decide +kernel
theorem dX10_ones_11 : decode cX10_ones 11 = .ok (.iload_n 1, 1) := by decide +kernel
theorem dX10_ones_12 : decode cX10_ones 12 = .ok (.iload_n 3, 1) := by decide +kernel
theorem dX10_ones_13 : decode cX10_ones 13 = .ok (.ishr, 1) := by decide +kernel
theorem dX10_ones_14 : decode cX10_ones 14 = .ok (.iconst 1, 1) := by decide +kernel
theorem dX10_ones_15 : decode cX10_ones 15 = .ok (.iand, 1) := by decide +kernel
theorem dX10_ones_16 : decode cX10_ones 16 = .ok (.iadd, 1) := by decide +kernel
theorem dX10_ones_17 : decode cX10_ones 17 = .ok (.istore_n 2, 1) := by decide +kernel
theorem dX10_ones_18 : decode cX10_ones 18 = .ok (.iinc 3 1, 3) := by decide +kernel
theorem dX10_ones_21 : decode cX10_ones 21 = .ok (.goto (-17), 3) := by decide +kernel
theorem dX10_ones_24 : decode cX10_ones 24 = .ok (.iload_n 2, 1) := by decide +kernel
theorem dX10_ones_25 : decode cX10_ones 25 = .ok (.ireturn, 1) := by decide +kernel
set_option maxRecDepth 20000 in
theorem ggX10_findWrong_X10_ones : GoodIn wsX10_findWrong wsX10_ones := goodIn_r _ [6] (by decide +kernel) (by decide +kernel)
set_option maxRecDepth 20000 in
theorem gX10_findWrong_X10_ones : GoodIn wsX10_findWrong (wsV RX10 180 RX10 yX10_ones wsX10_ones) := goodIn_app (goodIn_of _ (by decide +kernel)) ggX10_findWrong_X10_ones
set_option maxRecDepth 20000 in
theorem ggX10_findWrong_X10_agree : GoodIn wsX10_findWrong wsX10_agree := goodIn_r _ [10, 11, 12, 13, 1, 14, 15, 16, 17, 18, 19, 20, 21, 22, 23, 24, 25, 26, 27, 28, 29, 30, 31, 32, 33, 34, 35, 36, 37, 38, 39, 40, 41, 42, 43, 44, 45, 46, 47, 48, 49] (by decide +kernel) (by decide +kernel)
set_option maxRecDepth 20000 in
theorem gX10_findWrong_X10_agree : GoodIn wsX10_findWrong (wsV RX10 183 RX10 yX10_agree wsX10_agree) := goodIn_app (goodIn_of _ (by decide +kernel)) ggX10_findWrong_X10_agree
theorem dX10_findWrong_0 : decode cX10_findWrong 0 = .ok (.iconst 0, 1) := by decide +kernel
theorem dX10_findWrong_1 : decode cX10_findWrong 1 = .ok (.istore_n 1, 1) := by decide +kernel
theorem dX10_findWrong_2 : decode cX10_findWrong 2 = .ok (.bipush 15, 2) := by decide +kernel
theorem dX10_findWrong_4 : decode cX10_findWrong 4 = .ok (.istore_n 2, 1) := by decide +kernel
theorem dX10_findWrong_5 : decode cX10_findWrong 5 = .ok (.iconst 0, 1) := by decide +kernel
theorem dX10_findWrong_6 : decode cX10_findWrong 6 = .ok (.istore_n 3, 1) := by decide +kernel
theorem dX10_findWrong_7 : decode cX10_findWrong 7 = .ok (.iload_n 3, 1) := by decide +kernel
theorem dX10_findWrong_8 : decode cX10_findWrong 8 = .ok (.iconst 1, 1) := by decide +kernel
theorem dX10_findWrong_9 : decode cX10_findWrong 9 = .ok (.aload_n 0, 1) := by decide +kernel
theorem dX10_findWrong_10 : decode cX10_findWrong 10 = .ok (.getfield 78, 3) := by decide +kernel
theorem dX10_findWrong_13 : decode cX10_findWrong 13 = .ok (.ishl, 1) := by decide +kernel
theorem dX10_findWrong_14 : decode cX10_findWrong 14 = .ok (.if_icmp .ge 37, 3) := by decide +kernel
theorem dX10_findWrong_17 : decode cX10_findWrong 17 = .ok (.aload_n 0, 1) := by decide +kernel
theorem dX10_findWrong_18 : decode cX10_findWrong 18 = .ok (.iload_n 3, 1) := by decide +kernel
theorem dX10_findWrong_19 : decode cX10_findWrong 19 = .ok (.invokevirtual 180, 3) := by decide +kernel
theorem dX10_findWrong_22 : decode cX10_findWrong 22 = .ok (.iload_n 2, 1) := by decide +kernel
theorem dX10_findWrong_23 : decode cX10_findWrong 23 = .ok (.if_icmp .ge 22, 3) := by decide +kernel
theorem dX10_findWrong_26 : decode cX10_findWrong 26 = .ok (.aload_n 0, 1) := by decide +kernel
theorem dX10_findWrong_27 : decode cX10_findWrong 27 = .ok (.iload_n 3, 1) := by decide +kernel
theorem dX10_findWrong_28 : decode cX10_findWrong 28 = .ok (.invokevirtual 183, 3) := by decide +kernel
theorem dX10_findWrong_31 : decode cX10_findWrong 31 = .ok (.ifCond .ne 6, 3) := by decide +kernel
theorem dX10_findWrong_34 : decode cX10_findWrong 34 = .ok (.goto 11, 3) := by decide +kernel
theorem dX10_findWrong_37 : decode cX10_findWrong 37 = .ok (.aload_n 0, 1) := by decide +kernel
theorem dX10_findWrong_38 : decode cX10_findWrong 38 = .ok (.iload_n 3, 1) := by decide +kernel
theorem dX10_findWrong_39 : decode cX10_findWrong 39 = .ok (.invokevirtual 180, 3) := by decide +kernel
theorem dX10_findWrong_42 : decode cX10_findWrong 42 = .ok (.istore_n 2, 1) := by decide +kernel
theorem dX10_findWrong_43 : decode cX10_findWrong 43 = .ok (.iload_n 3, 1) := by decide +kernel
theorem dX10_findWrong_44 : decode cX10_findWrong 44 = .ok (.istore_n 1, 1) := by decide +kernel
theorem dX10_findWrong_45 : decode cX10_findWrong 45 = .ok (.iinc 3 1, 3) := by decide +kernel
theorem dX10_findWrong_48 : decode cX10_findWrong 48 = .ok (.goto (-41), 3) := by decide +kernel
theorem dX10_findWrong_51 : decode cX10_findWrong 51 = .ok (.iload_n 1, 1) := by decide +kernel
theorem dX10_findWrong_52 : decode cX10_findWrong 52 = .ok (.ireturn, 1) := by decide +kernel
set_option maxRecDepth 20000 in
theorem ggX10_wrong_X10_findWrong : GoodIn wsX10_wrong wsX10_findWrong := goodIn_r _ [5, 6, 7, 8, 9, 4, 10, 11, 12, 13, 14, 15, 16, 17, 18, 19, 20, 21, 22, 23, 24, 25, 26, 27, 28, 29, 30, 31, 32, 33, 34, 35, 36, 37, 38, 39, 40, 41, 42, 43, 44, 45, 46, 47, 48, 49, 50, 51, 52, 53] (by decide +kernel) (by decide +kernel)
set_option maxRecDepth 20000 in
theorem gX10_wrong_X10_findWrong : GoodIn wsX10_wrong (wsV RX10 186 RX10 yX10_findWrong wsX10_findWrong) := goodIn_app (goodIn_of _ (by decide +kernel)) ggX10_wrong_X10_findWrong
set_option maxRecDepth 20000 in
theorem ggX10_wrong_X10_ones : GoodIn wsX10_wrong wsX10_ones := goodIn_r _ [10] (by decide +kernel) (by decide +kernel)
set_option maxRecDepth 20000 in
theorem gX10_wrong_X10_ones : GoodIn wsX10_wrong (wsV RX10 180 RX10 yX10_ones wsX10_ones) := goodIn_app (goodIn_of _ (by decide +kernel)) ggX10_wrong_X10_ones
theorem dX10_wrong_0 : decode cX10_wrong 0 = .ok (.iload_n 1, 1) := by decide +kernel
theorem dX10_wrong_1 : decode cX10_wrong 1 = .ok (.ifCond .ne 14, 3) := by decide +kernel
theorem dX10_wrong_4 : decode cX10_wrong 4 = .ok (.aload_n 0, 1) := by decide +kernel
theorem dX10_wrong_5 : decode cX10_wrong 5 = .ok (.aload_n 0, 1) := by decide +kernel
theorem dX10_wrong_6 : decode cX10_wrong 6 = .ok (.invokevirtual 186, 3) := by decide +kernel
theorem dX10_wrong_9 : decode cX10_wrong 9 = .ok (.invokevirtual 180, 3) := by decide +kernel
theorem dX10_wrong_12 : decode cX10_wrong 12 = .ok (.goto 16, 3) := by decide +kernel
theorem dX10_wrong_15 : decode cX10_wrong 15 = .ok (.iload_n 1, 1) := by decide +kernel
theorem dX10_wrong_16 : decode cX10_wrong 16 = .ok (.iconst 1, 1) := by decide +kernel
theorem dX10_wrong_17 : decode cX10_wrong 17 = .ok (.if_icmp .ne 10, 3) := by decide +kernel
theorem dX10_wrong_20 : decode cX10_wrong 20 = .ok (.aload_n 0, 1) := by decide +kernel
theorem dX10_wrong_21 : decode cX10_wrong 21 = .ok (.invokevirtual 186, 3) := by decide +kernel
theorem dX10_wrong_24 : decode cX10_wrong 24 = .ok (.goto 4, 3) := by decide +kernel
theorem dX10_wrong_27 : decode cX10_wrong 27 = .ok (.iconst (-1), 1) := by decide +kernel
theorem dX10_wrong_28 : decode cX10_wrong 28 = .ok (.ireturn, 1) := by decide +kernel
set_option maxRecDepth 20000 in
theorem ggX10_height_X10_isMark : GoodIn wsX10_height wsX10_isMark := goodIn_r _ [8, 9, 10, 11, 12, 7, 13, 30, 31, 32, 33, 34, 35, 36, 37, 38, 39, 40, 41, 42, 43, 44, 45, 46, 47, 48, 49, 50, 51, 52, 53, 54, 55, 56, 57, 58, 59, 60, 61, 62] (by decide +kernel) (by decide +kernel)
set_option maxRecDepth 20000 in
theorem gX10_height_X10_isMark : GoodIn wsX10_height (wsV RX10 116 RX10 yX10_isMark wsX10_isMark) := goodIn_app (goodIn_of _ (by decide +kernel)) ggX10_height_X10_isMark
set_option maxRecDepth 20000 in
theorem ggX10_height_X10_findWrong : GoodIn wsX10_height wsX10_findWrong := goodIn_r _ [17, 18, 19, 20, 21, 7, 22, 23, 24, 25, 26, 9, 2, 3, 27, 28, 29, 30, 31, 32, 33, 34, 35, 36, 37, 38, 39, 40, 41, 42, 43, 44, 45, 46, 47, 48, 49, 50, 51, 52, 53, 54, 55, 56, 57, 58, 59, 60, 61, 62] (by decide +kernel) (by decide +kernel)
set_option maxRecDepth 20000 in
theorem gX10_height_X10_findWrong : GoodIn wsX10_height (wsV RX10 186 RX10 yX10_findWrong wsX10_findWrong) := goodIn_app (goodIn_of _ (by decide +kernel)) ggX10_height_X10_findWrong
set_option maxRecDepth 20000 in
theorem ggX10_height_X10_agree : GoodIn wsX10_height wsX10_agree := goodIn_r _ [26, 9, 2, 3, 18, 27, 28, 29, 30, 31, 32, 33, 34, 35, 36, 37, 38, 39, 40, 41, 42, 43, 44, 45, 46, 47, 48, 49, 50, 51, 52, 53, 54, 55, 56, 57, 58, 59, 60, 61, 62] (by decide +kernel) (by decide +kernel)
set_option maxRecDepth 20000 in
theorem gX10_height_X10_agree : GoodIn wsX10_height (wsV RX10 183 RX10 yX10_agree wsX10_agree) := goodIn_app (goodIn_of _ (by decide +kernel)) ggX10_height_X10_agree
theorem dX10_height_0 : decode cX10_height 0 = .ok (.aload_n 0, 1) := by decide +kernel
theorem dX10_height_1 : decode cX10_height 1 = .ok (.aload_n 0, 1) := by decide +kernel
theorem dX10_height_2 : decode cX10_height 2 = .ok (.iload_n 1, 1) := by decide +kernel
theorem dX10_height_3 : decode cX10_height 3 = .ok (.invokevirtual 116, 3) := by decide +kernel
theorem dX10_height_6 : decode cX10_height 6 = .ok (.ifCond .eq 7, 3) := by decide +kernel
theorem dX10_height_9 : decode cX10_height 9 = .ok (.iconst 0, 1) := by decide +kernel
theorem dX10_height_10 : decode cX10_height 10 = .ok (.goto 4, 3) := by decide +kernel
theorem dX10_height_13 : decode cX10_height 13 = .ok (.iconst 1, 1) := by decide +kernel
theorem dX10_height_14 : decode cX10_height 14 = .ok (.putfield 7, 3) := by decide +kernel
theorem dX10_height_17 : decode cX10_height 17 = .ok (.aload_n 0, 1) := by decide +kernel
theorem dX10_height_18 : decode cX10_height 18 = .ok (.getfield 7, 3) := by decide +kernel
theorem dX10_height_21 : decode cX10_height 21 = .ok (.ifCond .le 5, 3) := by decide +kernel
theorem dX10_height_24 : decode cX10_height 24 = .ok (.lconst 0, 1) := by decide +kernel
theorem dX10_height_25 : decode cX10_height 25 = .ok (.lreturn, 1) := by decide +kernel
theorem dX10_height_26 : decode cX10_height 26 = .ok (.aload_n 0, 1) := by decide +kernel
theorem dX10_height_27 : decode cX10_height 27 = .ok (.aload_n 0, 1) := by decide +kernel
theorem dX10_height_28 : decode cX10_height 28 = .ok (.invokevirtual 186, 3) := by decide +kernel
theorem dX10_height_31 : decode cX10_height 31 = .ok (.invokevirtual 183, 3) := by decide +kernel
theorem dX10_height_34 : decode cX10_height 34 = .ok (.istore_n 2, 1) := by decide +kernel
theorem dX10_height_35 : decode cX10_height 35 = .ok (.aload_n 0, 1) := by decide +kernel
theorem dX10_height_36 : decode cX10_height 36 = .ok (.iload_n 2, 1) := by decide +kernel
theorem dX10_height_37 : decode cX10_height 37 = .ok (.ifCond .eq 22, 3) := by decide +kernel
theorem dX10_height_40 : decode cX10_height 40 = .ok (.aload_n 0, 1) := by decide +kernel
theorem dX10_height_41 : decode cX10_height 41 = .ok (.getfield 90, 3) := by decide +kernel
theorem dX10_height_44 : decode cX10_height 44 = .ok (.iload_n 1, 1) := by decide +kernel
theorem dX10_height_45 : decode cX10_height 45 = .ok (.iaload, 1) := by decide +kernel
theorem dX10_height_46 : decode cX10_height 46 = .ok (.aload_n 0, 1) := by decide +kernel
theorem dX10_height_47 : decode cX10_height 47 = .ok (.getfield 90, 3) := by decide +kernel
theorem dX10_height_50 : decode cX10_height 50 = .ok (.iconst 0, 1) := by decide +kernel
theorem dX10_height_51 : decode cX10_height 51 = .ok (.iaload, 1) := by decide +kernel
theorem dX10_height_52 : decode cX10_height 52 = .ok (.if_icmp .ne 7, 3) := by decide +kernel
theorem dX10_height_55 : decode cX10_height 55 = .ok (.iconst 0, 1) := by decide +kernel
theorem dX10_height_56 : decode cX10_height 56 = .ok (.goto 4, 3) := by decide +kernel
theorem dX10_height_59 : decode cX10_height 59 = .ok (.iconst 2, 1) := by decide +kernel
theorem dX10_height_60 : decode cX10_height 60 = .ok (.putfield 7, 3) := by decide +kernel
theorem dX10_height_63 : decode cX10_height 63 = .ok (.aload_n 0, 1) := by decide +kernel
theorem dX10_height_64 : decode cX10_height 64 = .ok (.getfield 7, 3) := by decide +kernel
theorem dX10_height_67 : decode cX10_height 67 = .ok (.ifCond .le 7, 3) := by decide +kernel
theorem dX10_height_70 : decode cX10_height 70 = .ok (.lconst 0, 1) := by decide +kernel
theorem dX10_height_71 : decode cX10_height 71 = .ok (.goto 16, 3) := by decide +kernel
theorem dX10_height_74 : decode cX10_height 74 = .ok (.aload_n 0, 1) := by decide +kernel
theorem dX10_height_75 : decode cX10_height 75 = .ok (.getfield 93, 3) := by decide +kernel
theorem dX10_height_78 : decode cX10_height 78 = .ok (.iload_n 1, 1) := by decide +kernel
theorem dX10_height_79 : decode cX10_height 79 = .ok (.laload, 1) := by decide +kernel
theorem dX10_height_80 : decode cX10_height 80 = .ok (.aload_n 0, 1) := by decide +kernel
theorem dX10_height_81 : decode cX10_height 81 = .ok (.getfield 93, 3) := by decide +kernel
theorem dX10_height_84 : decode cX10_height 84 = .ok (.iconst 0, 1) := by decide +kernel
theorem dX10_height_85 : decode cX10_height 85 = .ok (.laload, 1) := by decide +kernel
theorem dX10_height_86 : decode cX10_height 86 = .ok (.lsub, 1) := by decide +kernel
theorem dX10_height_87 : decode cX10_height 87 = .ok (.lreturn, 1) := by decide +kernel
set_option maxRecDepth 20000 in
theorem ggX10_readingsOf_X10_spot : GoodIn wsX10_readingsOf wsX10_spot := goodIn_r _ [6] (by decide +kernel) (by decide +kernel)
set_option maxRecDepth 20000 in
theorem gX10_readingsOf_X10_spot : GoodIn wsX10_readingsOf (wsV RX10 128 RX10 yX10_spot wsX10_spot) := goodIn_app (goodIn_of _ (by decide +kernel)) ggX10_readingsOf_X10_spot
theorem dX10_readingsOf_0 : decode cX10_readingsOf 0 = .ok (.iconst 0, 1) := by decide +kernel
theorem dX10_readingsOf_1 : decode cX10_readingsOf 1 = .ok (.istore_n 2, 1) := by decide +kernel
theorem dX10_readingsOf_2 : decode cX10_readingsOf 2 = .ok (.iconst 0, 1) := by decide +kernel
theorem dX10_readingsOf_3 : decode cX10_readingsOf 3 = .ok (.istore_n 3, 1) := by decide +kernel
theorem dX10_readingsOf_4 : decode cX10_readingsOf 4 = .ok (.iload_n 3, 1) := by decide +kernel
theorem dX10_readingsOf_5 : decode cX10_readingsOf 5 = .ok (.bipush 40, 2) := by decide +kernel
theorem dX10_readingsOf_7 : decode cX10_readingsOf 7 = .ok (.if_icmp .ge 31, 3) := by decide +kernel
theorem dX10_readingsOf_10 : decode cX10_readingsOf 10 = .ok (.iload_n 2, 1) := by decide +kernel
theorem dX10_readingsOf_11 : decode cX10_readingsOf 11 = .ok (.aload_n 0, 1) := by decide +kernel
theorem dX10_readingsOf_12 : decode cX10_readingsOf 12 = .ok (.getfield 35, 3) := by decide +kernel
theorem dX10_readingsOf_15 : decode cX10_readingsOf 15 = .ok (.aload_n 0, 1) := by decide +kernel
theorem dX10_readingsOf_16 : decode cX10_readingsOf 16 = .ok (.iload_n 1, 1) := by decide +kernel
theorem dX10_readingsOf_17 : decode cX10_readingsOf 17 = .ok (.iload_n 3, 1) := by decide +kernel
theorem dX10_readingsOf_18 : decode cX10_readingsOf 18 = .ok (.invokevirtual 128, 3) := by decide +kernel
theorem dX10_readingsOf_21 : decode cX10_readingsOf 21 = .ok (.baload, 1) := by decide +kernel
theorem dX10_readingsOf_22 : decode cX10_readingsOf 22 = .ok (.ifCond .eq 7, 3) := by decide +kernel
theorem dX10_readingsOf_25 : decode cX10_readingsOf 25 = .ok (.iconst 1, 1) := by decide +kernel
theorem dX10_readingsOf_26 : decode cX10_readingsOf 26 = .ok (.goto 4, 3) := by decide +kernel
theorem dX10_readingsOf_29 : decode cX10_readingsOf 29 = .ok (.iconst 0, 1) := by decide +kernel
theorem dX10_readingsOf_30 : decode cX10_readingsOf 30 = .ok (.iadd, 1) := by decide +kernel
theorem dX10_readingsOf_31 : decode cX10_readingsOf 31 = .ok (.istore_n 2, 1) := by decide +kernel
theorem dX10_readingsOf_32 : decode cX10_readingsOf 32 = .ok (.iinc 3 1, 3) := by decide +kernel
theorem dX10_readingsOf_35 : decode cX10_readingsOf 35 = .ok (.goto (-31), 3) := by decide +kernel
theorem dX10_readingsOf_38 : decode cX10_readingsOf 38 = .ok (.iload_n 2, 1) := by decide +kernel
theorem dX10_readingsOf_39 : decode cX10_readingsOf 39 = .ok (.ireturn, 1) := by decide +kernel
set_option maxRecDepth 20000 in
theorem ggX10_count_X10_readingsOf : GoodIn wsX10_count wsX10_readingsOf := goodIn_r _ [9, 10, 11, 12, 13, 8, 14, 15, 16, 17, 18, 19, 20, 21, 22, 23, 24, 25, 26, 27, 28, 29, 30, 31, 32, 33, 34, 35, 36, 37, 38, 39, 40, 41, 42, 43, 44, 45, 46, 47] (by decide +kernel) (by decide +kernel)
set_option maxRecDepth 20000 in
theorem gX10_count_X10_readingsOf : GoodIn wsX10_count (wsV RX10 190 RX10 yX10_readingsOf wsX10_readingsOf) := goodIn_app (goodIn_of _ (by decide +kernel)) ggX10_count_X10_readingsOf
theorem dX10_count_0 : decode cX10_count 0 = .ok (.iconst 0, 1) := by decide +kernel
theorem dX10_count_1 : decode cX10_count 1 = .ok (.istore_n 2, 1) := by decide +kernel
theorem dX10_count_2 : decode cX10_count 2 = .ok (.iload_n 1, 1) := by decide +kernel
theorem dX10_count_3 : decode cX10_count 3 = .ok (.tableswitch 88 0 4 #[33, 38, 38, 78, 83], 33) := by decide +kernel
theorem dX10_count_36 : decode cX10_count 36 = .ok (.aload_n 0, 1) := by decide +kernel
theorem dX10_count_37 : decode cX10_count 37 = .ok (.getfield 13, 3) := by decide +kernel
theorem dX10_count_40 : decode cX10_count 40 = .ok (.ireturn, 1) := by decide +kernel
theorem dX10_count_41 : decode cX10_count 41 = .ok (.iconst 0, 1) := by decide +kernel
theorem dX10_count_42 : decode cX10_count 42 = .ok (.istore_n 3, 1) := by decide +kernel
theorem dX10_count_43 : decode cX10_count 43 = .ok (.iload_n 3, 1) := by decide +kernel
theorem dX10_count_44 : decode cX10_count 44 = .ok (.aload_n 0, 1) := by decide +kernel
theorem dX10_count_45 : decode cX10_count 45 = .ok (.getfield 13, 3) := by decide +kernel
theorem dX10_count_48 : decode cX10_count 48 = .ok (.if_icmp .ge 31, 3) := by decide +kernel
theorem dX10_count_51 : decode cX10_count 51 = .ok (.iload_n 2, 1) := by decide +kernel
theorem dX10_count_52 : decode cX10_count 52 = .ok (.iload_n 1, 1) := by decide +kernel
theorem dX10_count_53 : decode cX10_count 53 = .ok (.iconst 1, 1) := by decide +kernel
theorem dX10_count_54 : decode cX10_count 54 = .ok (.if_icmp .ne 11, 3) := by decide +kernel
theorem dX10_count_57 : decode cX10_count 57 = .ok (.aload_n 0, 1) := by decide +kernel
theorem dX10_count_58 : decode cX10_count 58 = .ok (.iload_n 3, 1) := by decide +kernel
theorem dX10_count_59 : decode cX10_count 59 = .ok (.invokevirtual 190, 3) := by decide +kernel
theorem dX10_count_62 : decode cX10_count 62 = .ok (.goto 9, 3) := by decide +kernel
theorem dX10_count_65 : decode cX10_count 65 = .ok (.aload_n 0, 1) := by decide +kernel
theorem dX10_count_66 : decode cX10_count 66 = .ok (.getfield 32, 3) := by decide +kernel
theorem dX10_count_69 : decode cX10_count 69 = .ok (.iload_n 3, 1) := by decide +kernel
theorem dX10_count_70 : decode cX10_count 70 = .ok (.iaload, 1) := by decide +kernel
theorem dX10_count_71 : decode cX10_count 71 = .ok (.iadd, 1) := by decide +kernel
theorem dX10_count_72 : decode cX10_count 72 = .ok (.istore_n 2, 1) := by decide +kernel
theorem dX10_count_73 : decode cX10_count 73 = .ok (.iinc 3 1, 3) := by decide +kernel
theorem dX10_count_76 : decode cX10_count 76 = .ok (.goto (-33), 3) := by decide +kernel
theorem dX10_count_79 : decode cX10_count 79 = .ok (.iload_n 2, 1) := by decide +kernel
theorem dX10_count_80 : decode cX10_count 80 = .ok (.ireturn, 1) := by decide +kernel
theorem dX10_count_81 : decode cX10_count 81 = .ok (.aload_n 0, 1) := by decide +kernel
theorem dX10_count_82 : decode cX10_count 82 = .ok (.getfield 78, 3) := by decide +kernel
theorem dX10_count_85 : decode cX10_count 85 = .ok (.ireturn, 1) := by decide +kernel
theorem dX10_count_86 : decode cX10_count 86 = .ok (.aload_n 0, 1) := by decide +kernel
theorem dX10_count_87 : decode cX10_count 87 = .ok (.getfield 63, 3) := by decide +kernel
theorem dX10_count_90 : decode cX10_count 90 = .ok (.ireturn, 1) := by decide +kernel
theorem dX10_count_91 : decode cX10_count 91 = .ok (.iconst (-1), 1) := by decide +kernel
theorem dX10_count_92 : decode cX10_count 92 = .ok (.ireturn, 1) := by decide +kernel
set_option maxRecDepth 20000 in
theorem ggX10_isShelf_X10_in : GoodIn wsX10_isShelf wsX10_in := goodIn_r _ [5] (by decide +kernel) (by decide +kernel)
set_option maxRecDepth 20000 in
theorem gX10_isShelf_X10_in : GoodIn wsX10_isShelf (wsV RX10 112 RX10 yX10_in wsX10_in) := goodIn_app (goodIn_of _ (by decide +kernel)) ggX10_isShelf_X10_in
theorem dX10_isShelf_0 : decode cX10_isShelf 0 = .ok (.aload_n 0, 1) := by decide +kernel
theorem dX10_isShelf_1 : decode cX10_isShelf 1 = .ok (.iload_n 1, 1) := by decide +kernel
theorem dX10_isShelf_2 : decode cX10_isShelf 2 = .ok (.iconst 0, 1) := by decide +kernel
theorem dX10_isShelf_3 : decode cX10_isShelf 3 = .ok (.bipush 7, 2) := by decide +kernel
theorem dX10_isShelf_5 : decode cX10_isShelf 5 = .ok (.invokevirtual 112, 3) := by decide +kernel
theorem dX10_isShelf_8 : decode cX10_isShelf 8 = .ok (.ireturn, 1) := by decide +kernel
theorem dX10_wipe_0 : decode cX10_wipe 0 = .ok (.iconst 0, 1) := by decide +kernel
theorem dX10_wipe_1 : decode cX10_wipe 1 = .ok (.istore_n 2, 1) := by decide +kernel
theorem dX10_wipe_2 : decode cX10_wipe 2 = .ok (.iload_n 2, 1) := by decide +kernel
theorem dX10_wipe_3 : decode cX10_wipe 3 = .ok (.bipush 60, 2) := by decide +kernel
theorem dX10_wipe_5 : decode cX10_wipe 5 = .ok (.if_icmp .ge 21, 3) := by decide +kernel
theorem dX10_wipe_8 : decode cX10_wipe 8 = .ok (.aload_n 0, 1) := by decide +kernel
theorem dX10_wipe_9 : decode cX10_wipe 9 = .ok (.getfield 106, 3) := by decide +kernel
theorem dX10_wipe_12 : decode cX10_wipe 12 = .ok (.bipush 60, 2) := by decide +kernel
theorem dX10_wipe_14 : decode cX10_wipe 14 = .ok (.iload_n 1, 1) := by decide +kernel
theorem dX10_wipe_15 : decode cX10_wipe 15 = .ok (.imul, 1) := by decide +kernel
theorem dX10_wipe_16 : decode cX10_wipe 16 = .ok (.iload_n 2, 1) := by decide +kernel
theorem dX10_wipe_17 : decode cX10_wipe 17 = .ok (.iadd, 1) := by decide +kernel
theorem dX10_wipe_18 : decode cX10_wipe 18 = .ok (.lconst 0, 1) := by decide +kernel
theorem dX10_wipe_19 : decode cX10_wipe 19 = .ok (.lastore, 1) := by decide +kernel
theorem dX10_wipe_20 : decode cX10_wipe 20 = .ok (.iinc 2 1, 3) := by decide +kernel
theorem dX10_wipe_23 : decode cX10_wipe 23 = .ok (.goto (-21), 3) := by decide +kernel
theorem dX10_wipe_26 : decode cX10_wipe 26 = .ok (.return_, 1) := by decide +kernel
set_option maxRecDepth 20000 in
theorem ggX10_keep_X10_isShelf : GoodIn wsX10_keep wsX10_isShelf := goodIn_r _ [9, 10, 11, 12, 8, 13] (by decide +kernel) (by decide +kernel)
set_option maxRecDepth 20000 in
theorem gX10_keep_X10_isShelf : GoodIn wsX10_keep (wsV RX10 193 RX10 yX10_isShelf wsX10_isShelf) := goodIn_app (goodIn_of _ (by decide +kernel)) ggX10_keep_X10_isShelf
set_option maxRecDepth 20000 in
theorem ggX10_keep_X10_isMark : GoodIn wsX10_keep wsX10_isMark := goodIn_r _ [17, 18, 10, 11, 12, 8, 13, 59, 60, 61, 62, 63, 64, 65, 66, 67, 68, 69, 70, 71, 72, 73, 74, 75, 76, 77, 78, 79, 80, 81, 82, 83, 84, 85, 86, 87, 88, 89, 90, 91] (by decide +kernel) (by decide +kernel)
set_option maxRecDepth 20000 in
theorem gX10_keep_X10_isMark : GoodIn wsX10_keep (wsV RX10 116 RX10 yX10_isMark wsX10_isMark) := goodIn_app (goodIn_of _ (by decide +kernel)) ggX10_keep_X10_isMark
set_option maxRecDepth 20000 in
theorem ggX10_keep_X10_wipe : GoodIn wsX10_keep wsX10_wipe := goodIn_r _ [22, 4, 59, 60, 61, 62, 63, 64, 65, 66, 67, 68, 69, 70, 71, 72, 73, 74, 75, 76, 77, 78, 79, 80, 81, 82, 83, 84, 85, 86, 87, 88, 89, 90, 91] (by decide +kernel) (by decide +kernel)
set_option maxRecDepth 20000 in
theorem gX10_keep_X10_wipe : GoodIn wsX10_keep (wsV RX10 196 RX10 yX10_wipe wsX10_wipe) := goodIn_app (goodIn_of _ (by decide +kernel)) ggX10_keep_X10_wipe
set_option maxRecDepth 20000 in
theorem ggX10_keep_X10_isCleared : GoodIn wsX10_keep wsX10_isCleared := goodIn_r _ [26, 27, 28, 29, 30, 8, 31, 32, 33, 34, 35, 36, 59, 60, 61, 62, 63, 64, 65, 66, 67, 68, 69, 70, 71, 72, 73, 74, 75, 76, 77, 78, 79, 80, 81, 82, 83, 84, 85, 86, 87, 88, 89, 90, 91] (by decide +kernel) (by decide +kernel)
set_option maxRecDepth 20000 in
theorem gX10_keep_X10_isCleared : GoodIn wsX10_keep (wsV RX10 146 RX10 yX10_isCleared wsX10_isCleared) := goodIn_app (goodIn_of _ (by decide +kernel)) ggX10_keep_X10_isCleared
set_option maxRecDepth 20000 in
theorem ggX10_keep_X10_clear : GoodIn wsX10_keep wsX10_clear := goodIn_r _ [40, 41, 42, 36, 43, 44, 45, 8, 46, 47, 48, 49, 50, 28, 29, 30, 31, 51, 52, 53, 54, 55, 56, 57, 58, 27, 59, 60, 61, 62, 63, 64, 65, 66, 67, 68, 69, 70, 71, 72, 73, 74, 75, 76, 77, 78, 79, 80, 81, 82, 83, 84, 85, 86, 87, 88, 89, 90, 91] (by decide +kernel) (by decide +kernel)
set_option maxRecDepth 20000 in
theorem gX10_keep_X10_clear : GoodIn wsX10_keep (wsV RX10 149 RX10 yX10_clear wsX10_clear) := goodIn_app (goodIn_of _ (by decide +kernel)) ggX10_keep_X10_clear
theorem dX10_keep_0 : decode cX10_keep 0 = .ok (.aload_n 0, 1) := by decide +kernel
theorem dX10_keep_1 : decode cX10_keep 1 = .ok (.iload_n 1, 1) := by decide +kernel
theorem dX10_keep_2 : decode cX10_keep 2 = .ok (.invokevirtual 193, 3) := by decide +kernel
theorem dX10_keep_5 : decode cX10_keep 5 = .ok (.ifCond .eq 34, 3) := by decide +kernel
theorem dX10_keep_8 : decode cX10_keep 8 = .ok (.iload_n 2, 1) := by decide +kernel
theorem dX10_keep_9 : decode cX10_keep 9 = .ok (.ifCond .eq 26, 3) := by decide +kernel
theorem dX10_keep_12 : decode cX10_keep 12 = .ok (.iload_n 2, 1) := by decide +kernel
theorem dX10_keep_13 : decode cX10_keep 13 = .ok (.iconst 1, 1) := by decide +kernel
theorem dX10_keep_14 : decode cX10_keep 14 = .ok (.if_icmp .eq 13, 3) := by decide +kernel
theorem dX10_keep_17 : decode cX10_keep 17 = .ok (.iload_n 2, 1) := by decide +kernel
theorem dX10_keep_18 : decode cX10_keep 18 = .ok (.iconst 3, 1) := by decide +kernel
theorem dX10_keep_19 : decode cX10_keep 19 = .ok (.if_icmp .eq 8, 3) := by decide +kernel
theorem dX10_keep_22 : decode cX10_keep 22 = .ok (.iload_n 2, 1) := by decide +kernel
theorem dX10_keep_23 : decode cX10_keep 23 = .ok (.iconst 4, 1) := by decide +kernel
theorem dX10_keep_24 : decode cX10_keep 24 = .ok (.if_icmp .ne 15, 3) := by decide +kernel
theorem dX10_keep_27 : decode cX10_keep 27 = .ok (.aload_n 0, 1) := by decide +kernel
theorem dX10_keep_28 : decode cX10_keep 28 = .ok (.iload_n 3, 1) := by decide +kernel
theorem dX10_keep_29 : decode cX10_keep 29 = .ok (.invokevirtual 116, 3) := by decide +kernel
theorem dX10_keep_32 : decode cX10_keep 32 = .ok (.ifCond .eq 7, 3) := by decide +kernel
theorem dX10_keep_35 : decode cX10_keep 35 = .ok (.iconst 1, 1) := by decide +kernel
theorem dX10_keep_36 : decode cX10_keep 36 = .ok (.goto 4, 3) := by decide +kernel
theorem dX10_keep_39 : decode cX10_keep 39 = .ok (.iconst 0, 1) := by decide +kernel
theorem dX10_keep_40 : decode cX10_keep 40 = .ok (.istore 4, 2) := by decide +kernel
theorem dX10_keep_42 : decode cX10_keep 42 = .ok (.iload 4, 2) := by decide +kernel
theorem dX10_keep_44 : decode cX10_keep 44 = .ok (.ifCond .ne 5, 3) := by decide +kernel
theorem dX10_keep_47 : decode cX10_keep 47 = .ok (.iconst (-1), 1) := by decide +kernel
theorem dX10_keep_48 : decode cX10_keep 48 = .ok (.ireturn, 1) := by decide +kernel
theorem dX10_keep_49 : decode cX10_keep 49 = .ok (.aload_n 0, 1) := by decide +kernel
theorem dX10_keep_50 : decode cX10_keep 50 = .ok (.getfield 97, 3) := by decide +kernel
theorem dX10_keep_53 : decode cX10_keep 53 = .ok (.iload_n 1, 1) := by decide +kernel
theorem dX10_keep_54 : decode cX10_keep 54 = .ok (.iload_n 2, 1) := by decide +kernel
theorem dX10_keep_55 : decode cX10_keep 55 = .ok (.iastore, 1) := by decide +kernel
theorem dX10_keep_56 : decode cX10_keep 56 = .ok (.aload_n 0, 1) := by decide +kernel
theorem dX10_keep_57 : decode cX10_keep 57 = .ok (.getfield 100, 3) := by decide +kernel
theorem dX10_keep_60 : decode cX10_keep 60 = .ok (.iload_n 1, 1) := by decide +kernel
theorem dX10_keep_61 : decode cX10_keep 61 = .ok (.iload_n 3, 1) := by decide +kernel
theorem dX10_keep_62 : decode cX10_keep 62 = .ok (.iastore, 1) := by decide +kernel
theorem dX10_keep_63 : decode cX10_keep 63 = .ok (.aload_n 0, 1) := by decide +kernel
theorem dX10_keep_64 : decode cX10_keep 64 = .ok (.iload_n 1, 1) := by decide +kernel
theorem dX10_keep_65 : decode cX10_keep 65 = .ok (.invokevirtual 196, 3) := by decide +kernel
theorem dX10_keep_68 : decode cX10_keep 68 = .ok (.aload_n 0, 1) := by decide +kernel
theorem dX10_keep_69 : decode cX10_keep 69 = .ok (.getfield 103, 3) := by decide +kernel
theorem dX10_keep_72 : decode cX10_keep 72 = .ok (.iload_n 1, 1) := by decide +kernel
theorem dX10_keep_73 : decode cX10_keep 73 = .ok (.iconst 0, 1) := by decide +kernel
theorem dX10_keep_74 : decode cX10_keep 74 = .ok (.iastore, 1) := by decide +kernel
theorem dX10_keep_75 : decode cX10_keep 75 = .ok (.iconst 0, 1) := by decide +kernel
theorem dX10_keep_76 : decode cX10_keep 76 = .ok (.istore 5, 2) := by decide +kernel
theorem dX10_keep_78 : decode cX10_keep 78 = .ok (.iload 5, 2) := by decide +kernel
theorem dX10_keep_80 : decode cX10_keep 80 = .ok (.bipush 40, 2) := by decide +kernel
theorem dX10_keep_82 : decode cX10_keep 82 = .ok (.if_icmp .ge 72, 3) := by decide +kernel
theorem dX10_keep_85 : decode cX10_keep 85 = .ok (.iload_n 2, 1) := by decide +kernel
theorem dX10_keep_86 : decode cX10_keep 86 = .ok (.iconst 1, 1) := by decide +kernel
theorem dX10_keep_87 : decode cX10_keep 87 = .ok (.if_icmp .le 67, 3) := by decide +kernel
theorem dX10_keep_90 : decode cX10_keep 90 = .ok (.aload_n 0, 1) := by decide +kernel
theorem dX10_keep_91 : decode cX10_keep 91 = .ok (.iload_n 3, 1) := by decide +kernel
theorem dX10_keep_92 : decode cX10_keep 92 = .ok (.iload 5, 2) := by decide +kernel
theorem dX10_keep_94 : decode cX10_keep 94 = .ok (.invokevirtual 146, 3) := by decide +kernel
theorem dX10_keep_97 : decode cX10_keep 97 = .ok (.ifCond .ne 6, 3) := by decide +kernel
theorem dX10_keep_100 : decode cX10_keep 100 = .ok (.goto 48, 3) := by decide +kernel
theorem dX10_keep_103 : decode cX10_keep 103 = .ok (.aload_n 0, 1) := by decide +kernel
theorem dX10_keep_104 : decode cX10_keep 104 = .ok (.getfield 106, 3) := by decide +kernel
theorem dX10_keep_107 : decode cX10_keep 107 = .ok (.bipush 60, 2) := by decide +kernel
theorem dX10_keep_109 : decode cX10_keep 109 = .ok (.iload_n 1, 1) := by decide +kernel
theorem dX10_keep_110 : decode cX10_keep 110 = .ok (.imul, 1) := by decide +kernel
theorem dX10_keep_111 : decode cX10_keep 111 = .ok (.aload_n 0, 1) := by decide +kernel
theorem dX10_keep_112 : decode cX10_keep 112 = .ok (.getfield 103, 3) := by decide +kernel
theorem dX10_keep_115 : decode cX10_keep 115 = .ok (.iload_n 1, 1) := by decide +kernel
theorem dX10_keep_116 : decode cX10_keep 116 = .ok (.iaload, 1) := by decide +kernel
theorem dX10_keep_117 : decode cX10_keep 117 = .ok (.iadd, 1) := by decide +kernel
theorem dX10_keep_118 : decode cX10_keep 118 = .ok (.iload_n 2, 1) := by decide +kernel
theorem dX10_keep_119 : decode cX10_keep 119 = .ok (.iconst 3, 1) := by decide +kernel
theorem dX10_keep_120 : decode cX10_keep 120 = .ok (.if_icmp .ne 9, 3) := by decide +kernel
theorem dX10_keep_123 : decode cX10_keep 123 = .ok (.iload 5, 2) := by decide +kernel
theorem dX10_keep_125 : decode cX10_keep 125 = .ok (.i2l, 1) := by decide +kernel
theorem dX10_keep_126 : decode cX10_keep 126 = .ok (.goto 11, 3) := by decide +kernel
theorem dX10_keep_129 : decode cX10_keep 129 = .ok (.aload_n 0, 1) := by decide +kernel
theorem dX10_keep_130 : decode cX10_keep 130 = .ok (.iload_n 3, 1) := by decide +kernel
theorem dX10_keep_131 : decode cX10_keep 131 = .ok (.iload 5, 2) := by decide +kernel
theorem dX10_keep_133 : decode cX10_keep 133 = .ok (.iconst 0, 1) := by decide +kernel
theorem dX10_keep_134 : decode cX10_keep 134 = .ok (.invokevirtual 149, 3) := by decide +kernel
theorem dX10_keep_137 : decode cX10_keep 137 = .ok (.lastore, 1) := by decide +kernel
theorem dX10_keep_138 : decode cX10_keep 138 = .ok (.aload_n 0, 1) := by decide +kernel
theorem dX10_keep_139 : decode cX10_keep 139 = .ok (.getfield 103, 3) := by decide +kernel
theorem dX10_keep_142 : decode cX10_keep 142 = .ok (.iload_n 1, 1) := by decide +kernel
theorem dX10_keep_143 : decode cX10_keep 143 = .ok (.dup2, 1) := by decide +kernel
theorem dX10_keep_144 : decode cX10_keep 144 = .ok (.iaload, 1) := by decide +kernel
theorem dX10_keep_145 : decode cX10_keep 145 = .ok (.iconst 1, 1) := by decide +kernel
theorem dX10_keep_146 : decode cX10_keep 146 = .ok (.iadd, 1) := by decide +kernel
theorem dX10_keep_147 : decode cX10_keep 147 = .ok (.iastore, 1) := by decide +kernel
theorem dX10_keep_148 : decode cX10_keep 148 = .ok (.iinc 5 1, 3) := by decide +kernel
theorem dX10_keep_151 : decode cX10_keep 151 = .ok (.goto (-73), 3) := by decide +kernel
theorem dX10_keep_154 : decode cX10_keep 154 = .ok (.iconst 0, 1) := by decide +kernel
theorem dX10_keep_155 : decode cX10_keep 155 = .ok (.ireturn, 1) := by decide +kernel
set_option maxRecDepth 20000 in
theorem ggX10_make_X10_isShelf : GoodIn wsX10_make wsX10_isShelf := goodIn_r _ [7, 8, 9, 10, 6, 11] (by decide +kernel) (by decide +kernel)
set_option maxRecDepth 20000 in
theorem gX10_make_X10_isShelf : GoodIn wsX10_make (wsV RX10 193 RX10 yX10_isShelf wsX10_isShelf) := goodIn_app (goodIn_of _ (by decide +kernel)) ggX10_make_X10_isShelf
set_option maxRecDepth 20000 in
theorem ggX10_make_X10_in : GoodIn wsX10_make wsX10_in := goodIn_r _ [11] (by decide +kernel) (by decide +kernel)
set_option maxRecDepth 20000 in
theorem gX10_make_X10_in : GoodIn wsX10_make (wsV RX10 112 RX10 yX10_in wsX10_in) := goodIn_app (goodIn_of _ (by decide +kernel)) ggX10_make_X10_in
set_option maxRecDepth 20000 in
theorem ggX10_make_X10_wipe : GoodIn wsX10_make wsX10_wipe := goodIn_r _ [15, 16, 17, 18, 19, 20, 21, 22, 23, 24, 25, 26, 27, 28, 29, 30, 31, 32, 33, 34, 35, 36, 37, 38, 39, 40, 41, 42, 43, 44, 45, 46, 47, 48, 49] (by decide +kernel) (by decide +kernel)
set_option maxRecDepth 20000 in
theorem gX10_make_X10_wipe : GoodIn wsX10_make (wsV RX10 196 RX10 yX10_wipe wsX10_wipe) := goodIn_app (goodIn_of _ (by decide +kernel)) ggX10_make_X10_wipe
theorem dX10_make_0 : decode cX10_make 0 = .ok (.aload_n 0, 1) := by decide +kernel
theorem dX10_make_1 : decode cX10_make 1 = .ok (.iload_n 1, 1) := by decide +kernel
theorem dX10_make_2 : decode cX10_make 2 = .ok (.invokevirtual 193, 3) := by decide +kernel
theorem dX10_make_5 : decode cX10_make 5 = .ok (.ifCond .eq 19, 3) := by decide +kernel
theorem dX10_make_8 : decode cX10_make 8 = .ok (.aload_n 0, 1) := by decide +kernel
theorem dX10_make_9 : decode cX10_make 9 = .ok (.iload_n 2, 1) := by decide +kernel
theorem dX10_make_10 : decode cX10_make 10 = .ok (.iconst 3, 1) := by decide +kernel
theorem dX10_make_11 : decode cX10_make 11 = .ok (.iconst 4, 1) := by decide +kernel
theorem dX10_make_12 : decode cX10_make 12 = .ok (.invokevirtual 112, 3) := by decide +kernel
theorem dX10_make_15 : decode cX10_make 15 = .ok (.ifCond .eq 9, 3) := by decide +kernel
theorem dX10_make_18 : decode cX10_make 18 = .ok (.iload_n 3, 1) := by decide +kernel
theorem dX10_make_19 : decode cX10_make 19 = .ok (.bipush 60, 2) := by decide +kernel
theorem dX10_make_21 : decode cX10_make 21 = .ok (.if_icmp .le 5, 3) := by decide +kernel
theorem dX10_make_24 : decode cX10_make 24 = .ok (.iconst (-1), 1) := by decide +kernel
theorem dX10_make_25 : decode cX10_make 25 = .ok (.ireturn, 1) := by decide +kernel
theorem dX10_make_26 : decode cX10_make 26 = .ok (.iload_n 3, 1) := by decide +kernel
theorem dX10_make_27 : decode cX10_make 27 = .ok (.ifCond .ge 6, 3) := by decide +kernel
theorem dX10_make_30 : decode cX10_make 30 = .ok (.bipush (-14), 2) := by decide +kernel
theorem dX10_make_32 : decode cX10_make 32 = .ok (.ireturn, 1) := by decide +kernel
theorem dX10_make_33 : decode cX10_make 33 = .ok (.aload_n 0, 1) := by decide +kernel
theorem dX10_make_34 : decode cX10_make 34 = .ok (.getfield 97, 3) := by decide +kernel
theorem dX10_make_37 : decode cX10_make 37 = .ok (.iload_n 1, 1) := by decide +kernel
theorem dX10_make_38 : decode cX10_make 38 = .ok (.iload_n 2, 1) := by decide +kernel
theorem dX10_make_39 : decode cX10_make 39 = .ok (.iastore, 1) := by decide +kernel
theorem dX10_make_40 : decode cX10_make 40 = .ok (.aload_n 0, 1) := by decide +kernel
theorem dX10_make_41 : decode cX10_make 41 = .ok (.getfield 103, 3) := by decide +kernel
theorem dX10_make_44 : decode cX10_make 44 = .ok (.iload_n 1, 1) := by decide +kernel
theorem dX10_make_45 : decode cX10_make 45 = .ok (.iload_n 3, 1) := by decide +kernel
theorem dX10_make_46 : decode cX10_make 46 = .ok (.iastore, 1) := by decide +kernel
theorem dX10_make_47 : decode cX10_make 47 = .ok (.aload_n 0, 1) := by decide +kernel
theorem dX10_make_48 : decode cX10_make 48 = .ok (.iload_n 1, 1) := by decide +kernel
theorem dX10_make_49 : decode cX10_make 49 = .ok (.invokevirtual 196, 3) := by decide +kernel
theorem dX10_make_52 : decode cX10_make 52 = .ok (.iconst 0, 1) := by decide +kernel
theorem dX10_make_53 : decode cX10_make 53 = .ok (.ireturn, 1) := by decide +kernel
set_option maxRecDepth 20000 in
theorem ggX10_element_X10_isShelf : GoodIn wsX10_element wsX10_isShelf := goodIn_r _ [9, 10, 11, 12, 8, 13] (by decide +kernel) (by decide +kernel)
set_option maxRecDepth 20000 in
theorem gX10_element_X10_isShelf : GoodIn wsX10_element (wsV RX10 193 RX10 yX10_isShelf wsX10_isShelf) := goodIn_app (goodIn_of _ (by decide +kernel)) ggX10_element_X10_isShelf
set_option maxRecDepth 20000 in
theorem ggX10_element_X10_in : GoodIn wsX10_element wsX10_in := goodIn_r _ [13] (by decide +kernel) (by decide +kernel)
set_option maxRecDepth 20000 in
theorem gX10_element_X10_in : GoodIn wsX10_element (wsV RX10 112 RX10 yX10_in wsX10_in) := goodIn_app (goodIn_of _ (by decide +kernel)) ggX10_element_X10_in
theorem dX10_element_0 : decode cX10_element 0 = .ok (.aload_n 0, 1) := by decide +kernel
theorem dX10_element_1 : decode cX10_element 1 = .ok (.aload_n 0, 1) := by decide +kernel
theorem dX10_element_2 : decode cX10_element 2 = .ok (.iload_n 1, 1) := by decide +kernel
theorem dX10_element_3 : decode cX10_element 3 = .ok (.invokevirtual 193, 3) := by decide +kernel
theorem dX10_element_6 : decode cX10_element 6 = .ok (.ifCond .ne 7, 3) := by decide +kernel
theorem dX10_element_9 : decode cX10_element 9 = .ok (.iconst 1, 1) := by decide +kernel
theorem dX10_element_10 : decode cX10_element 10 = .ok (.goto 35, 3) := by decide +kernel
theorem dX10_element_13 : decode cX10_element 13 = .ok (.aload_n 0, 1) := by decide +kernel
theorem dX10_element_14 : decode cX10_element 14 = .ok (.getfield 97, 3) := by decide +kernel
theorem dX10_element_17 : decode cX10_element 17 = .ok (.iload_n 1, 1) := by decide +kernel
theorem dX10_element_18 : decode cX10_element 18 = .ok (.iaload, 1) := by decide +kernel
theorem dX10_element_19 : decode cX10_element 19 = .ok (.iconst 3, 1) := by decide +kernel
theorem dX10_element_20 : decode cX10_element 20 = .ok (.if_icmp .lt 20, 3) := by decide +kernel
theorem dX10_element_23 : decode cX10_element 23 = .ok (.aload_n 0, 1) := by decide +kernel
theorem dX10_element_24 : decode cX10_element 24 = .ok (.iload_n 2, 1) := by decide +kernel
theorem dX10_element_25 : decode cX10_element 25 = .ok (.iconst 0, 1) := by decide +kernel
theorem dX10_element_26 : decode cX10_element 26 = .ok (.aload_n 0, 1) := by decide +kernel
theorem dX10_element_27 : decode cX10_element 27 = .ok (.getfield 103, 3) := by decide +kernel
theorem dX10_element_30 : decode cX10_element 30 = .ok (.iload_n 1, 1) := by decide +kernel
theorem dX10_element_31 : decode cX10_element 31 = .ok (.iaload, 1) := by decide +kernel
theorem dX10_element_32 : decode cX10_element 32 = .ok (.iconst 1, 1) := by decide +kernel
theorem dX10_element_33 : decode cX10_element 33 = .ok (.isub, 1) := by decide +kernel
theorem dX10_element_34 : decode cX10_element 34 = .ok (.invokevirtual 112, 3) := by decide +kernel
theorem dX10_element_37 : decode cX10_element 37 = .ok (.ifCond .ne 7, 3) := by decide +kernel
theorem dX10_element_40 : decode cX10_element 40 = .ok (.iconst 2, 1) := by decide +kernel
theorem dX10_element_41 : decode cX10_element 41 = .ok (.goto 4, 3) := by decide +kernel
theorem dX10_element_44 : decode cX10_element 44 = .ok (.iconst 0, 1) := by decide +kernel
theorem dX10_element_45 : decode cX10_element 45 = .ok (.putfield 7, 3) := by decide +kernel
theorem dX10_element_48 : decode cX10_element 48 = .ok (.aload_n 0, 1) := by decide +kernel
theorem dX10_element_49 : decode cX10_element 49 = .ok (.getfield 7, 3) := by decide +kernel
theorem dX10_element_52 : decode cX10_element 52 = .ok (.ifCond .le 7, 3) := by decide +kernel
theorem dX10_element_55 : decode cX10_element 55 = .ok (.lconst 0, 1) := by decide +kernel
theorem dX10_element_56 : decode cX10_element 56 = .ok (.goto 14, 3) := by decide +kernel
theorem dX10_element_59 : decode cX10_element 59 = .ok (.aload_n 0, 1) := by decide +kernel
theorem dX10_element_60 : decode cX10_element 60 = .ok (.getfield 106, 3) := by decide +kernel
theorem dX10_element_63 : decode cX10_element 63 = .ok (.bipush 60, 2) := by decide +kernel
theorem dX10_element_65 : decode cX10_element 65 = .ok (.iload_n 1, 1) := by decide +kernel
theorem dX10_element_66 : decode cX10_element 66 = .ok (.imul, 1) := by decide +kernel
theorem dX10_element_67 : decode cX10_element 67 = .ok (.iload_n 2, 1) := by decide +kernel
theorem dX10_element_68 : decode cX10_element 68 = .ok (.iadd, 1) := by decide +kernel
theorem dX10_element_69 : decode cX10_element 69 = .ok (.laload, 1) := by decide +kernel
theorem dX10_element_70 : decode cX10_element 70 = .ok (.lreturn, 1) := by decide +kernel
set_option maxRecDepth 20000 in
theorem ggX10_copy_X10_isShelf : GoodIn wsX10_copy wsX10_isShelf := goodIn_r _ [9, 10, 11, 12, 8, 13] (by decide +kernel) (by decide +kernel)
set_option maxRecDepth 20000 in
theorem gX10_copy_X10_isShelf : GoodIn wsX10_copy (wsV RX10 193 RX10 yX10_isShelf wsX10_isShelf) := goodIn_app (goodIn_of _ (by decide +kernel)) ggX10_copy_X10_isShelf
theorem dX10_copy_0 : decode cX10_copy 0 = .ok (.aload_n 0, 1) := by decide +kernel
theorem dX10_copy_1 : decode cX10_copy 1 = .ok (.iload_n 1, 1) := by decide +kernel
theorem dX10_copy_2 : decode cX10_copy 2 = .ok (.invokevirtual 193, 3) := by decide +kernel
theorem dX10_copy_5 : decode cX10_copy 5 = .ok (.ifCond .eq 11, 3) := by decide +kernel
theorem dX10_copy_8 : decode cX10_copy 8 = .ok (.aload_n 0, 1) := by decide +kernel
theorem dX10_copy_9 : decode cX10_copy 9 = .ok (.iload_n 3, 1) := by decide +kernel
theorem dX10_copy_10 : decode cX10_copy 10 = .ok (.invokevirtual 193, 3) := by decide +kernel
theorem dX10_copy_13 : decode cX10_copy 13 = .ok (.ifCond .ne 5, 3) := by decide +kernel
theorem dX10_copy_16 : decode cX10_copy 16 = .ok (.iconst (-1), 1) := by decide +kernel
theorem dX10_copy_17 : decode cX10_copy 17 = .ok (.ireturn, 1) := by decide +kernel
theorem dX10_copy_18 : decode cX10_copy 18 = .ok (.aload_n 0, 1) := by decide +kernel
theorem dX10_copy_19 : decode cX10_copy 19 = .ok (.getfield 97, 3) := by decide +kernel
theorem dX10_copy_22 : decode cX10_copy 22 = .ok (.iload_n 1, 1) := by decide +kernel
theorem dX10_copy_23 : decode cX10_copy 23 = .ok (.iaload, 1) := by decide +kernel
theorem dX10_copy_24 : decode cX10_copy 24 = .ok (.ifCond .eq 12, 3) := by decide +kernel
theorem dX10_copy_27 : decode cX10_copy 27 = .ok (.aload_n 0, 1) := by decide +kernel
theorem dX10_copy_28 : decode cX10_copy 28 = .ok (.getfield 97, 3) := by decide +kernel
theorem dX10_copy_31 : decode cX10_copy 31 = .ok (.iload_n 3, 1) := by decide +kernel
theorem dX10_copy_32 : decode cX10_copy 32 = .ok (.iaload, 1) := by decide +kernel
theorem dX10_copy_33 : decode cX10_copy 33 = .ok (.ifCond .ne 6, 3) := by decide +kernel
theorem dX10_copy_36 : decode cX10_copy 36 = .ok (.bipush (-11), 2) := by decide +kernel
theorem dX10_copy_38 : decode cX10_copy 38 = .ok (.ireturn, 1) := by decide +kernel
theorem dX10_copy_39 : decode cX10_copy 39 = .ok (.aload_n 0, 1) := by decide +kernel
theorem dX10_copy_40 : decode cX10_copy 40 = .ok (.getfield 97, 3) := by decide +kernel
theorem dX10_copy_43 : decode cX10_copy 43 = .ok (.iload_n 1, 1) := by decide +kernel
theorem dX10_copy_44 : decode cX10_copy 44 = .ok (.iaload, 1) := by decide +kernel
theorem dX10_copy_45 : decode cX10_copy 45 = .ok (.iconst 3, 1) := by decide +kernel
theorem dX10_copy_46 : decode cX10_copy 46 = .ok (.if_icmp .lt 18, 3) := by decide +kernel
theorem dX10_copy_49 : decode cX10_copy 49 = .ok (.aload_n 0, 1) := by decide +kernel
theorem dX10_copy_50 : decode cX10_copy 50 = .ok (.getfield 97, 3) := by decide +kernel
theorem dX10_copy_53 : decode cX10_copy 53 = .ok (.iload_n 1, 1) := by decide +kernel
theorem dX10_copy_54 : decode cX10_copy 54 = .ok (.iaload, 1) := by decide +kernel
theorem dX10_copy_55 : decode cX10_copy 55 = .ok (.aload_n 0, 1) := by decide +kernel
theorem dX10_copy_56 : decode cX10_copy 56 = .ok (.getfield 97, 3) := by decide +kernel
theorem dX10_copy_59 : decode cX10_copy 59 = .ok (.iload_n 3, 1) := by decide +kernel
theorem dX10_copy_60 : decode cX10_copy 60 = .ok (.iaload, 1) := by decide +kernel
theorem dX10_copy_61 : decode cX10_copy 61 = .ok (.if_icmp .eq 6, 3) := by decide +kernel
theorem dX10_copy_64 : decode cX10_copy 64 = .ok (.bipush (-12), 2) := by decide +kernel
theorem dX10_copy_66 : decode cX10_copy 66 = .ok (.ireturn, 1) := by decide +kernel
theorem dX10_copy_67 : decode cX10_copy 67 = .ok (.iload 5, 2) := by decide +kernel
theorem dX10_copy_69 : decode cX10_copy 69 = .ok (.ifCond .lt 39, 3) := by decide +kernel
theorem dX10_copy_72 : decode cX10_copy 72 = .ok (.iload_n 2, 1) := by decide +kernel
theorem dX10_copy_73 : decode cX10_copy 73 = .ok (.ifCond .lt 35, 3) := by decide +kernel
theorem dX10_copy_76 : decode cX10_copy 76 = .ok (.iload 4, 2) := by decide +kernel
theorem dX10_copy_78 : decode cX10_copy 78 = .ok (.ifCond .lt 30, 3) := by decide +kernel
theorem dX10_copy_81 : decode cX10_copy 81 = .ok (.iload_n 2, 1) := by decide +kernel
theorem dX10_copy_82 : decode cX10_copy 82 = .ok (.aload_n 0, 1) := by decide +kernel
theorem dX10_copy_83 : decode cX10_copy 83 = .ok (.getfield 103, 3) := by decide +kernel
theorem dX10_copy_86 : decode cX10_copy 86 = .ok (.iload_n 1, 1) := by decide +kernel
theorem dX10_copy_87 : decode cX10_copy 87 = .ok (.iaload, 1) := by decide +kernel
theorem dX10_copy_88 : decode cX10_copy 88 = .ok (.iload 5, 2) := by decide +kernel
theorem dX10_copy_90 : decode cX10_copy 90 = .ok (.isub, 1) := by decide +kernel
theorem dX10_copy_91 : decode cX10_copy 91 = .ok (.if_icmp .gt 17, 3) := by decide +kernel
theorem dX10_copy_94 : decode cX10_copy 94 = .ok (.iload 4, 2) := by decide +kernel
theorem dX10_copy_96 : decode cX10_copy 96 = .ok (.aload_n 0, 1) := by decide +kernel
theorem dX10_copy_97 : decode cX10_copy 97 = .ok (.getfield 103, 3) := by decide +kernel
theorem dX10_copy_100 : decode cX10_copy 100 = .ok (.iload_n 3, 1) := by decide +kernel
theorem dX10_copy_101 : decode cX10_copy 101 = .ok (.iaload, 1) := by decide +kernel
theorem dX10_copy_102 : decode cX10_copy 102 = .ok (.iload 5, 2) := by decide +kernel
theorem dX10_copy_104 : decode cX10_copy 104 = .ok (.isub, 1) := by decide +kernel
theorem dX10_copy_105 : decode cX10_copy 105 = .ok (.if_icmp .le 6, 3) := by decide +kernel
theorem dX10_copy_108 : decode cX10_copy 108 = .ok (.bipush (-13), 2) := by decide +kernel
theorem dX10_copy_110 : decode cX10_copy 110 = .ok (.ireturn, 1) := by decide +kernel
theorem dX10_copy_111 : decode cX10_copy 111 = .ok (.iconst 0, 1) := by decide +kernel
theorem dX10_copy_112 : decode cX10_copy 112 = .ok (.istore 6, 2) := by decide +kernel
theorem dX10_copy_114 : decode cX10_copy 114 = .ok (.iload 6, 2) := by decide +kernel
theorem dX10_copy_116 : decode cX10_copy 116 = .ok (.iload 5, 2) := by decide +kernel
theorem dX10_copy_118 : decode cX10_copy 118 = .ok (.if_icmp .ge 30, 3) := by decide +kernel
theorem dX10_copy_121 : decode cX10_copy 121 = .ok (.aload_n 0, 1) := by decide +kernel
theorem dX10_copy_122 : decode cX10_copy 122 = .ok (.getfield 109, 3) := by decide +kernel
theorem dX10_copy_125 : decode cX10_copy 125 = .ok (.iload 6, 2) := by decide +kernel
theorem dX10_copy_127 : decode cX10_copy 127 = .ok (.aload_n 0, 1) := by decide +kernel
theorem dX10_copy_128 : decode cX10_copy 128 = .ok (.getfield 106, 3) := by decide +kernel
theorem dX10_copy_131 : decode cX10_copy 131 = .ok (.bipush 60, 2) := by decide +kernel
theorem dX10_copy_133 : decode cX10_copy 133 = .ok (.iload_n 1, 1) := by decide +kernel
theorem dX10_copy_134 : decode cX10_copy 134 = .ok (.imul, 1) := by decide +kernel
theorem dX10_copy_135 : decode cX10_copy 135 = .ok (.iload_n 2, 1) := by decide +kernel
theorem dX10_copy_136 : decode cX10_copy 136 = .ok (.iadd, 1) := by decide +kernel
theorem dX10_copy_137 : decode cX10_copy 137 = .ok (.iload 6, 2) := by decide +kernel
theorem dX10_copy_139 : decode cX10_copy 139 = .ok (.iadd, 1) := by decide +kernel
theorem dX10_copy_140 : decode cX10_copy 140 = .ok (.laload, 1) := by decide +kernel
theorem dX10_copy_141 : decode cX10_copy 141 = .ok (.lastore, 1) := by decide +kernel
theorem dX10_copy_142 : decode cX10_copy 142 = .ok (.iinc 6 1, 3) := by decide +kernel
theorem dX10_copy_145 : decode cX10_copy 145 = .ok (.goto (-31), 3) := by decide +kernel
theorem dX10_copy_148 : decode cX10_copy 148 = .ok (.iconst 0, 1) := by decide +kernel
theorem dX10_copy_149 : decode cX10_copy 149 = .ok (.istore 6, 2) := by decide +kernel
theorem dX10_copy_151 : decode cX10_copy 151 = .ok (.iload 6, 2) := by decide +kernel
theorem dX10_copy_153 : decode cX10_copy 153 = .ok (.iload 5, 2) := by decide +kernel
theorem dX10_copy_155 : decode cX10_copy 155 = .ok (.if_icmp .ge 31, 3) := by decide +kernel
theorem dX10_copy_158 : decode cX10_copy 158 = .ok (.aload_n 0, 1) := by decide +kernel
theorem dX10_copy_159 : decode cX10_copy 159 = .ok (.getfield 106, 3) := by decide +kernel
theorem dX10_copy_162 : decode cX10_copy 162 = .ok (.bipush 60, 2) := by decide +kernel
theorem dX10_copy_164 : decode cX10_copy 164 = .ok (.iload_n 3, 1) := by decide +kernel
theorem dX10_copy_165 : decode cX10_copy 165 = .ok (.imul, 1) := by decide +kernel
theorem dX10_copy_166 : decode cX10_copy 166 = .ok (.iload 4, 2) := by decide +kernel
theorem dX10_copy_168 : decode cX10_copy 168 = .ok (.iadd, 1) := by decide +kernel
theorem dX10_copy_169 : decode cX10_copy 169 = .ok (.iload 6, 2) := by decide +kernel
theorem dX10_copy_171 : decode cX10_copy 171 = .ok (.iadd, 1) := by decide +kernel
theorem dX10_copy_172 : decode cX10_copy 172 = .ok (.aload_n 0, 1) := by decide +kernel
theorem dX10_copy_173 : decode cX10_copy 173 = .ok (.getfield 109, 3) := by decide +kernel
theorem dX10_copy_176 : decode cX10_copy 176 = .ok (.iload 6, 2) := by decide +kernel
theorem dX10_copy_178 : decode cX10_copy 178 = .ok (.laload, 1) := by decide +kernel
theorem dX10_copy_179 : decode cX10_copy 179 = .ok (.lastore, 1) := by decide +kernel
theorem dX10_copy_180 : decode cX10_copy 180 = .ok (.iinc 6 1, 3) := by decide +kernel
theorem dX10_copy_183 : decode cX10_copy 183 = .ok (.goto (-32), 3) := by decide +kernel
theorem dX10_copy_186 : decode cX10_copy 186 = .ok (.iload 5, 2) := by decide +kernel
theorem dX10_copy_188 : decode cX10_copy 188 = .ok (.ireturn, 1) := by decide +kernel
set_option maxRecDepth 20000 in
theorem ggX10_weight_X10_isShelf : GoodIn wsX10_weight wsX10_isShelf := goodIn_r _ [9, 10, 11, 12, 8, 13] (by decide +kernel) (by decide +kernel)
set_option maxRecDepth 20000 in
theorem gX10_weight_X10_isShelf : GoodIn wsX10_weight (wsV RX10 193 RX10 yX10_isShelf wsX10_isShelf) := goodIn_app (goodIn_of _ (by decide +kernel)) ggX10_weight_X10_isShelf
set_option maxRecDepth 20000 in
theorem ggX10_weight_X10_readingsOf : GoodIn wsX10_weight wsX10_readingsOf := goodIn_r _ [17, 18, 19, 20, 21, 8, 22, 27, 28, 29, 30, 31, 32, 33, 34, 35, 36, 37, 38, 39, 40, 41, 42, 43, 44, 45, 46, 47, 48, 49, 50, 51, 52, 53, 54, 55, 56, 57, 58, 59] (by decide +kernel) (by decide +kernel)
set_option maxRecDepth 20000 in
theorem gX10_weight_X10_readingsOf : GoodIn wsX10_weight (wsV RX10 190 RX10 yX10_readingsOf wsX10_readingsOf) := goodIn_app (goodIn_of _ (by decide +kernel)) ggX10_weight_X10_readingsOf
set_option maxRecDepth 20000 in
theorem ggX10_weight_X10_hasAntenna : GoodIn wsX10_weight wsX10_hasAntenna := goodIn_r _ [26, 4, 27, 28, 29, 30, 31, 32, 33, 34, 35, 36, 37, 38, 39, 40, 41, 42, 43, 44, 45, 46, 47, 48, 49, 50, 51, 52, 53, 54, 55, 56, 57, 58, 59] (by decide +kernel) (by decide +kernel)
set_option maxRecDepth 20000 in
theorem gX10_weight_X10_hasAntenna : GoodIn wsX10_weight (wsV RX10 123 RX10 yX10_hasAntenna wsX10_hasAntenna) := goodIn_app (goodIn_of _ (by decide +kernel)) ggX10_weight_X10_hasAntenna
theorem dX10_weight_0 : decode cX10_weight 0 = .ok (.aload_n 0, 1) := by decide +kernel
theorem dX10_weight_1 : decode cX10_weight 1 = .ok (.iload_n 1, 1) := by decide +kernel
theorem dX10_weight_2 : decode cX10_weight 2 = .ok (.invokevirtual 193, 3) := by decide +kernel
theorem dX10_weight_5 : decode cX10_weight 5 = .ok (.ifCond .ne 7, 3) := by decide +kernel
theorem dX10_weight_8 : decode cX10_weight 8 = .ok (.sipush (-1001), 3) := by decide +kernel
theorem dX10_weight_11 : decode cX10_weight 11 = .ok (.ireturn, 1) := by decide +kernel
theorem dX10_weight_12 : decode cX10_weight 12 = .ok (.aload_n 0, 1) := by decide +kernel
theorem dX10_weight_13 : decode cX10_weight 13 = .ok (.getfield 97, 3) := by decide +kernel
theorem dX10_weight_16 : decode cX10_weight 16 = .ok (.iload_n 1, 1) := by decide +kernel
theorem dX10_weight_17 : decode cX10_weight 17 = .ok (.iaload, 1) := by decide +kernel
theorem dX10_weight_18 : decode cX10_weight 18 = .ok (.ifCond .ne 7, 3) := by decide +kernel
theorem dX10_weight_21 : decode cX10_weight 21 = .ok (.sipush (-1011), 3) := by decide +kernel
theorem dX10_weight_24 : decode cX10_weight 24 = .ok (.ireturn, 1) := by decide +kernel
theorem dX10_weight_25 : decode cX10_weight 25 = .ok (.aload_n 0, 1) := by decide +kernel
theorem dX10_weight_26 : decode cX10_weight 26 = .ok (.getfield 97, 3) := by decide +kernel
theorem dX10_weight_29 : decode cX10_weight 29 = .ok (.iload_n 1, 1) := by decide +kernel
theorem dX10_weight_30 : decode cX10_weight 30 = .ok (.iaload, 1) := by decide +kernel
theorem dX10_weight_31 : decode cX10_weight 31 = .ok (.iconst 1, 1) := by decide +kernel
theorem dX10_weight_32 : decode cX10_weight 32 = .ok (.if_icmp .eq 7, 3) := by decide +kernel
theorem dX10_weight_35 : decode cX10_weight 35 = .ok (.sipush (-1012), 3) := by decide +kernel
theorem dX10_weight_38 : decode cX10_weight 38 = .ok (.ireturn, 1) := by decide +kernel
theorem dX10_weight_39 : decode cX10_weight 39 = .ok (.aload_n 0, 1) := by decide +kernel
theorem dX10_weight_40 : decode cX10_weight 40 = .ok (.getfield 100, 3) := by decide +kernel
theorem dX10_weight_43 : decode cX10_weight 43 = .ok (.iload_n 1, 1) := by decide +kernel
theorem dX10_weight_44 : decode cX10_weight 44 = .ok (.iaload, 1) := by decide +kernel
theorem dX10_weight_45 : decode cX10_weight 45 = .ok (.istore_n 2, 1) := by decide +kernel
theorem dX10_weight_46 : decode cX10_weight 46 = .ok (.bipush 10, 2) := by decide +kernel
theorem dX10_weight_48 : decode cX10_weight 48 = .ok (.aload_n 0, 1) := by decide +kernel
theorem dX10_weight_49 : decode cX10_weight 49 = .ok (.iload_n 2, 1) := by decide +kernel
theorem dX10_weight_50 : decode cX10_weight 50 = .ok (.invokevirtual 190, 3) := by decide +kernel
theorem dX10_weight_53 : decode cX10_weight 53 = .ok (.iadd, 1) := by decide +kernel
theorem dX10_weight_54 : decode cX10_weight 54 = .ok (.aload_n 0, 1) := by decide +kernel
theorem dX10_weight_55 : decode cX10_weight 55 = .ok (.iload_n 2, 1) := by decide +kernel
theorem dX10_weight_56 : decode cX10_weight 56 = .ok (.invokevirtual 123, 3) := by decide +kernel
theorem dX10_weight_59 : decode cX10_weight 59 = .ok (.ifCond .eq 15, 3) := by decide +kernel
theorem dX10_weight_62 : decode cX10_weight 62 = .ok (.aload_n 0, 1) := by decide +kernel
theorem dX10_weight_63 : decode cX10_weight 63 = .ok (.getfield 26, 3) := by decide +kernel
theorem dX10_weight_66 : decode cX10_weight 66 = .ok (.iload_n 2, 1) := by decide +kernel
theorem dX10_weight_67 : decode cX10_weight 67 = .ok (.iaload, 1) := by decide +kernel
theorem dX10_weight_68 : decode cX10_weight 68 = .ok (.bipush 100, 2) := by decide +kernel
theorem dX10_weight_70 : decode cX10_weight 70 = .ok (.iadd, 1) := by decide +kernel
theorem dX10_weight_71 : decode cX10_weight 71 = .ok (.goto 4, 3) := by decide +kernel
theorem dX10_weight_74 : decode cX10_weight 74 = .ok (.iconst 0, 1) := by decide +kernel
theorem dX10_weight_75 : decode cX10_weight 75 = .ok (.iadd, 1) := by decide +kernel
theorem dX10_weight_76 : decode cX10_weight 76 = .ok (.aload_n 0, 1) := by decide +kernel
theorem dX10_weight_77 : decode cX10_weight 77 = .ok (.getfield 16, 3) := by decide +kernel
theorem dX10_weight_80 : decode cX10_weight 80 = .ok (.iload_n 2, 1) := by decide +kernel
theorem dX10_weight_81 : decode cX10_weight 81 = .ok (.iaload, 1) := by decide +kernel
theorem dX10_weight_82 : decode cX10_weight 82 = .ok (.iconst 3, 1) := by decide +kernel
theorem dX10_weight_83 : decode cX10_weight 83 = .ok (.if_icmp .ne 8, 3) := by decide +kernel
theorem dX10_weight_86 : decode cX10_weight 86 = .ok (.bipush 7, 2) := by decide +kernel
theorem dX10_weight_88 : decode cX10_weight 88 = .ok (.goto 4, 3) := by decide +kernel
theorem dX10_weight_91 : decode cX10_weight 91 = .ok (.iconst 0, 1) := by decide +kernel
theorem dX10_weight_92 : decode cX10_weight 92 = .ok (.iadd, 1) := by decide +kernel
theorem dX10_weight_93 : decode cX10_weight 93 = .ok (.istore_n 3, 1) := by decide +kernel
theorem dX10_weight_94 : decode cX10_weight 94 = .ok (.aload_n 0, 1) := by decide +kernel
theorem dX10_weight_95 : decode cX10_weight 95 = .ok (.getfield 16, 3) := by decide +kernel
theorem dX10_weight_98 : decode cX10_weight 98 = .ok (.iload_n 2, 1) := by decide +kernel
theorem dX10_weight_99 : decode cX10_weight 99 = .ok (.iaload, 1) := by decide +kernel
theorem dX10_weight_100 : decode cX10_weight 100 = .ok (.iconst 2, 1) := by decide +kernel
theorem dX10_weight_101 : decode cX10_weight 101 = .ok (.if_icmp .ne 9, 3) := by decide +kernel
theorem dX10_weight_104 : decode cX10_weight 104 = .ok (.iconst 2, 1) := by decide +kernel
theorem dX10_weight_105 : decode cX10_weight 105 = .ok (.iload_n 3, 1) := by decide +kernel
theorem dX10_weight_106 : decode cX10_weight 106 = .ok (.imul, 1) := by decide +kernel
theorem dX10_weight_107 : decode cX10_weight 107 = .ok (.goto 4, 3) := by decide +kernel
theorem dX10_weight_110 : decode cX10_weight 110 = .ok (.iload_n 3, 1) := by decide +kernel
theorem dX10_weight_111 : decode cX10_weight 111 = .ok (.ireturn, 1) := by decide +kernel
set_option maxRecDepth 20000 in
theorem ggX10_toss_X10_isShelf : GoodIn wsX10_toss wsX10_isShelf := goodIn_r _ [7, 8, 9, 10, 6, 11] (by decide +kernel) (by decide +kernel)
set_option maxRecDepth 20000 in
theorem gX10_toss_X10_isShelf : GoodIn wsX10_toss (wsV RX10 193 RX10 yX10_isShelf wsX10_isShelf) := goodIn_app (goodIn_of _ (by decide +kernel)) ggX10_toss_X10_isShelf
set_option maxRecDepth 20000 in
theorem ggX10_toss_X10_hasAntenna : GoodIn wsX10_toss wsX10_hasAntenna := goodIn_r _ [15, 16, 17, 18, 19, 20, 21, 22, 23, 24, 25, 26, 27, 28, 29, 30, 31, 32, 33, 34, 35, 36, 37, 38, 39, 40, 41, 42, 43, 44, 45, 46, 47, 48, 49] (by decide +kernel) (by decide +kernel)
set_option maxRecDepth 20000 in
theorem gX10_toss_X10_hasAntenna : GoodIn wsX10_toss (wsV RX10 123 RX10 yX10_hasAntenna wsX10_hasAntenna) := goodIn_app (goodIn_of _ (by decide +kernel)) ggX10_toss_X10_hasAntenna
theorem dX10_toss_0 : decode cX10_toss 0 = .ok (.aload_n 0, 1) := by decide +kernel
theorem dX10_toss_1 : decode cX10_toss 1 = .ok (.iload_n 1, 1) := by decide +kernel
theorem dX10_toss_2 : decode cX10_toss 2 = .ok (.invokevirtual 193, 3) := by decide +kernel
theorem dX10_toss_5 : decode cX10_toss 5 = .ok (.ifCond .ne 5, 3) := by decide +kernel
theorem dX10_toss_8 : decode cX10_toss 8 = .ok (.iconst (-1), 1) := by decide +kernel
theorem dX10_toss_9 : decode cX10_toss 9 = .ok (.ireturn, 1) := by decide +kernel
theorem dX10_toss_10 : decode cX10_toss 10 = .ok (.aload_n 0, 1) := by decide +kernel
theorem dX10_toss_11 : decode cX10_toss 11 = .ok (.getfield 97, 3) := by decide +kernel
theorem dX10_toss_14 : decode cX10_toss 14 = .ok (.iload_n 1, 1) := by decide +kernel
theorem dX10_toss_15 : decode cX10_toss 15 = .ok (.iaload, 1) := by decide +kernel
theorem dX10_toss_16 : decode cX10_toss 16 = .ok (.ifCond .ne 6, 3) := by decide +kernel
theorem dX10_toss_19 : decode cX10_toss 19 = .ok (.bipush (-11), 2) := by decide +kernel
theorem dX10_toss_21 : decode cX10_toss 21 = .ok (.ireturn, 1) := by decide +kernel
theorem dX10_toss_22 : decode cX10_toss 22 = .ok (.aload_n 0, 1) := by decide +kernel
theorem dX10_toss_23 : decode cX10_toss 23 = .ok (.getfield 97, 3) := by decide +kernel
theorem dX10_toss_26 : decode cX10_toss 26 = .ok (.iload_n 1, 1) := by decide +kernel
theorem dX10_toss_27 : decode cX10_toss 27 = .ok (.iaload, 1) := by decide +kernel
theorem dX10_toss_28 : decode cX10_toss 28 = .ok (.iconst 1, 1) := by decide +kernel
theorem dX10_toss_29 : decode cX10_toss 29 = .ok (.if_icmp .eq 6, 3) := by decide +kernel
theorem dX10_toss_32 : decode cX10_toss 32 = .ok (.bipush (-12), 2) := by decide +kernel
theorem dX10_toss_34 : decode cX10_toss 34 = .ok (.ireturn, 1) := by decide +kernel
theorem dX10_toss_35 : decode cX10_toss 35 = .ok (.aload_n 0, 1) := by decide +kernel
theorem dX10_toss_36 : decode cX10_toss 36 = .ok (.aload_n 0, 1) := by decide +kernel
theorem dX10_toss_37 : decode cX10_toss 37 = .ok (.getfield 100, 3) := by decide +kernel
theorem dX10_toss_40 : decode cX10_toss 40 = .ok (.iload_n 1, 1) := by decide +kernel
theorem dX10_toss_41 : decode cX10_toss 41 = .ok (.iaload, 1) := by decide +kernel
theorem dX10_toss_42 : decode cX10_toss 42 = .ok (.invokevirtual 123, 3) := by decide +kernel
theorem dX10_toss_45 : decode cX10_toss 45 = .ok (.ifCond .eq 12, 3) := by decide +kernel
theorem dX10_toss_48 : decode cX10_toss 48 = .ok (.aload_n 0, 1) := by decide +kernel
theorem dX10_toss_49 : decode cX10_toss 49 = .ok (.getfield 100, 3) := by decide +kernel
theorem dX10_toss_52 : decode cX10_toss 52 = .ok (.iload_n 1, 1) := by decide +kernel
theorem dX10_toss_53 : decode cX10_toss 53 = .ok (.iaload, 1) := by decide +kernel
theorem dX10_toss_54 : decode cX10_toss 54 = .ok (.goto 5, 3) := by decide +kernel
theorem dX10_toss_57 : decode cX10_toss 57 = .ok (.bipush (-15), 2) := by decide +kernel
theorem dX10_toss_59 : decode cX10_toss 59 = .ok (.ireturn, 1) := by decide +kernel
