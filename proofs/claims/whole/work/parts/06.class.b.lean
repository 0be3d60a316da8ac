theorem dX2_heightOf_15 : decode cX2_heightOf 15 = .ok (.iconst 0, 1) := by decide +kernel
theorem dX2_heightOf_16 : decode cX2_heightOf 16 = .ok (.iaload, 1) := by decide +kernel
theorem dX2_heightOf_17 : decode cX2_heightOf 17 = .ok (.i2l, 1) := by decide +kernel
theorem dX2_heightOf_18 : decode cX2_heightOf 18 = .ok (.lsub, 1) := by decide +kernel
theorem dX2_heightOf_19 : decode cX2_heightOf 19 = .ok (.lreturn, 1) := by decide +kernel
set_option maxRecDepth 20000 in
theorem ggX2_find_X2_judge : GoodIn wsX2_find wsX2_judge := goodIn_r _ [10, 4, 11, 2, 12, 13, 14, 15, 16, 3, 17, 18, 19, 20, 6, 7, 8, 9, 21, 22, 23, 24, 25, 26, 27, 28, 29, 30, 31, 32, 33, 34, 35] (by decide +kernel) (by decide +kernel)
set_option maxRecDepth 20000 in
theorem gX2_find_X2_judge : GoodIn wsX2_find (wsV RX2 52 RX2 yX2_judge wsX2_judge) := goodIn_app (goodIn_of _ (by decide +kernel)) ggX2_find_X2_judge
theorem dX2_find_0 : decode cX2_find 0 = .ok (.aload_n 0, 1) := by decide +kernel
theorem dX2_find_1 : decode cX2_find 1 = .ok (.getfield 39, 3) := by decide +kernel
theorem dX2_find_4 : decode cX2_find 4 = .ok (.ifCond .eq 4, 3) := by decide +kernel
theorem dX2_find_7 : decode cX2_find 7 = .ok (.return_, 1) := by decide +kernel
theorem dX2_find_8 : decode cX2_find 8 = .ok (.iconst 0, 1) := by decide +kernel
theorem dX2_find_9 : decode cX2_find 9 = .ok (.istore_n 1, 1) := by decide +kernel
theorem dX2_find_10 : decode cX2_find 10 = .ok (.iload_n 1, 1) := by decide +kernel
theorem dX2_find_11 : decode cX2_find 11 = .ok (.bipush 10, 2) := by decide +kernel
theorem dX2_find_13 : decode cX2_find 13 = .ok (.if_icmp .ge 27, 3) := by decide +kernel
theorem dX2_find_16 : decode cX2_find 16 = .ok (.aload_n 0, 1) := by decide +kernel
theorem dX2_find_17 : decode cX2_find 17 = .ok (.getfield 23, 3) := by decide +kernel
theorem dX2_find_20 : decode cX2_find 20 = .ok (.iconst 0, 1) := by decide +kernel
theorem dX2_find_21 : decode cX2_find 21 = .ok (.aaload, 1) := by decide +kernel
theorem dX2_find_22 : decode cX2_find 22 = .ok (.iload_n 1, 1) := by decide +kernel
theorem dX2_find_23 : decode cX2_find 23 = .ok (.iload_n 1, 1) := by decide +kernel
theorem dX2_find_24 : decode cX2_find 24 = .ok (.iastore, 1) := by decide +kernel
theorem dX2_find_25 : decode cX2_find 25 = .ok (.aload_n 0, 1) := by decide +kernel
theorem dX2_find_26 : decode cX2_find 26 = .ok (.getfield 26, 3) := by decide +kernel
theorem dX2_find_29 : decode cX2_find 29 = .ok (.iconst 0, 1) := by decide +kernel
theorem dX2_find_30 : decode cX2_find 30 = .ok (.aaload, 1) := by decide +kernel
theorem dX2_find_31 : decode cX2_find 31 = .ok (.iload_n 1, 1) := by decide +kernel
theorem dX2_find_32 : decode cX2_find 32 = .ok (.iconst 0, 1) := by decide +kernel
theorem dX2_find_33 : decode cX2_find 33 = .ok (.iastore, 1) := by decide +kernel
theorem dX2_find_34 : decode cX2_find 34 = .ok (.iinc 1 1, 3) := by decide +kernel
theorem dX2_find_37 : decode cX2_find 37 = .ok (.goto (-27), 3) := by decide +kernel
theorem dX2_find_40 : decode cX2_find 40 = .ok (.aload_n 0, 1) := by decide +kernel
theorem dX2_find_41 : decode cX2_find 41 = .ok (.bipush 15, 2) := by decide +kernel
theorem dX2_find_43 : decode cX2_find 43 = .ok (.putfield 49, 3) := by decide +kernel
theorem dX2_find_46 : decode cX2_find 46 = .ok (.aload_n 0, 1) := by decide +kernel
theorem dX2_find_47 : decode cX2_find 47 = .ok (.aload_n 0, 1) := by decide +kernel
theorem dX2_find_48 : decode cX2_find 48 = .ok (.getfield 35, 3) := by decide +kernel
theorem dX2_find_51 : decode cX2_find 51 = .ok (.iconst 1, 1) := by decide +kernel
theorem dX2_find_52 : decode cX2_find 52 = .ok (.isub, 1) := by decide +kernel
theorem dX2_find_53 : decode cX2_find 53 = .ok (.iconst 0, 1) := by decide +kernel
theorem dX2_find_54 : decode cX2_find 54 = .ok (.iconst 0, 1) := by decide +kernel
theorem dX2_find_55 : decode cX2_find 55 = .ok (.iconst 0, 1) := by decide +kernel
theorem dX2_find_56 : decode cX2_find 56 = .ok (.invokevirtual 52, 3) := by decide +kernel
theorem dX2_find_59 : decode cX2_find 59 = .ok (.aload_n 0, 1) := by decide +kernel
theorem dX2_find_60 : decode cX2_find 60 = .ok (.iconst 1, 1) := by decide +kernel
theorem dX2_find_61 : decode cX2_find 61 = .ok (.putfield 39, 3) := by decide +kernel
theorem dX2_find_64 : decode cX2_find 64 = .ok (.return_, 1) := by decide +kernel
set_option maxRecDepth 20000 in
theorem ggX2_judge_X2_judge : GoodIn wsX2_judge wsX2_judge := goodIn_r _ [0, 1, 2, 3, 4, 5, 6, 7, 8, 9, 10, 11, 12, 13, 14, 15, 16, 17, 18, 19, 20, 21, 22, 23, 24, 25, 26, 27, 28, 29, 30, 31, 32] (by decide +kernel) (by decide +kernel)
set_option maxRecDepth 20000 in
theorem gX2_judge_X2_judge : GoodIn wsX2_judge (wsV RX2 52 RX2 yX2_judge wsX2_judge) := goodIn_app (goodIn_of _ (by decide +kernel)) ggX2_judge_X2_judge
set_option maxRecDepth 20000 in
theorem ggX2_judge_X2_join : GoodIn wsX2_judge wsX2_join := goodIn_r _ [21, 11, 12, 3, 9, 13, 22, 23, 24, 25, 26, 27, 28, 29, 30, 31, 32] (by decide +kernel) (by decide +kernel)
set_option maxRecDepth 20000 in
theorem gX2_judge_X2_join : GoodIn wsX2_judge (wsV RX2 62 RX2 yX2_join wsX2_join) := goodIn_app (goodIn_of _ (by decide +kernel)) ggX2_judge_X2_join
theorem dX2_judge_0 : decode cX2_judge 0 = .ok (.iload 4, 2) := by decide +kernel
theorem dX2_judge_2 : decode cX2_judge 2 = .ok (.aload_n 0, 1) := by decide +kernel
theorem dX2_judge_3 : decode cX2_judge 3 = .ok (.getfield 49, 3) := by decide +kernel
theorem dX2_judge_6 : decode cX2_judge 6 = .ok (.if_icmp .lt 4, 3) := by decide +kernel
theorem dX2_judge_9 : decode cX2_judge 9 = .ok (.return_, 1) := by decide +kernel
theorem dX2_judge_10 : decode cX2_judge 10 = .ok (.iload_n 1, 1) := by decide +kernel
theorem dX2_judge_11 : decode cX2_judge 11 = .ok (.ifCond .lt 9, 3) := by decide +kernel
theorem dX2_judge_14 : decode cX2_judge 14 = .ok (.iload_n 1, 1) := by decide +kernel
theorem dX2_judge_15 : decode cX2_judge 15 = .ok (.bipush 14, 2) := by decide +kernel
theorem dX2_judge_17 : decode cX2_judge 17 = .ok (.if_icmp .lt 49, 3) := by decide +kernel
theorem dX2_judge_20 : decode cX2_judge 20 = .ok (.aload_n 0, 1) := by decide +kernel
theorem dX2_judge_21 : decode cX2_judge 21 = .ok (.iload 4, 2) := by decide +kernel
theorem dX2_judge_23 : decode cX2_judge 23 = .ok (.putfield 49, 3) := by decide +kernel
theorem dX2_judge_26 : decode cX2_judge 26 = .ok (.aload_n 0, 1) := by decide +kernel
theorem dX2_judge_27 : decode cX2_judge 27 = .ok (.iload_n 3, 1) := by decide +kernel
theorem dX2_judge_28 : decode cX2_judge 28 = .ok (.putfield 46, 3) := by decide +kernel
theorem dX2_judge_31 : decode cX2_judge 31 = .ok (.aload_n 0, 1) := by decide +kernel
theorem dX2_judge_32 : decode cX2_judge 32 = .ok (.getfield 23, 3) := by decide +kernel
theorem dX2_judge_35 : decode cX2_judge 35 = .ok (.iload_n 2, 1) := by decide +kernel
theorem dX2_judge_36 : decode cX2_judge 36 = .ok (.aaload, 1) := by decide +kernel
theorem dX2_judge_37 : decode cX2_judge 37 = .ok (.iconst 0, 1) := by decide +kernel
theorem dX2_judge_38 : decode cX2_judge 38 = .ok (.aload_n 0, 1) := by decide +kernel
theorem dX2_judge_39 : decode cX2_judge 39 = .ok (.getfield 29, 3) := by decide +kernel
theorem dX2_judge_42 : decode cX2_judge 42 = .ok (.iconst 0, 1) := by decide +kernel
theorem dX2_judge_43 : decode cX2_judge 43 = .ok (.bipush 10, 2) := by decide +kernel
theorem dX2_judge_45 : decode cX2_judge 45 = .ok (.invokestatic 56, 3) := by decide +kernel
theorem dX2_judge_48 : decode cX2_judge 48 = .ok (.aload_n 0, 1) := by decide +kernel
theorem dX2_judge_49 : decode cX2_judge 49 = .ok (.getfield 26, 3) := by decide +kernel
theorem dX2_judge_52 : decode cX2_judge 52 = .ok (.iload_n 2, 1) := by decide +kernel
theorem dX2_judge_53 : decode cX2_judge 53 = .ok (.aaload, 1) := by decide +kernel
theorem dX2_judge_54 : decode cX2_judge 54 = .ok (.iconst 0, 1) := by decide +kernel
theorem dX2_judge_55 : decode cX2_judge 55 = .ok (.aload_n 0, 1) := by decide +kernel
theorem dX2_judge_56 : decode cX2_judge 56 = .ok (.getfield 32, 3) := by decide +kernel
theorem dX2_judge_59 : decode cX2_judge 59 = .ok (.iconst 0, 1) := by decide +kernel
theorem dX2_judge_60 : decode cX2_judge 60 = .ok (.bipush 10, 2) := by decide +kernel
theorem dX2_judge_62 : decode cX2_judge 62 = .ok (.invokestatic 56, 3) := by decide +kernel
theorem dX2_judge_65 : decode cX2_judge 65 = .ok (.return_, 1) := by decide +kernel
theorem dX2_judge_66 : decode cX2_judge 66 = .ok (.aload_n 0, 1) := by decide +kernel
theorem dX2_judge_67 : decode cX2_judge 67 = .ok (.getfield 9, 3) := by decide +kernel
theorem dX2_judge_70 : decode cX2_judge 70 = .ok (.iload_n 1, 1) := by decide +kernel
theorem dX2_judge_71 : decode cX2_judge 71 = .ok (.iaload, 1) := by decide +kernel
theorem dX2_judge_72 : decode cX2_judge 72 = .ok (.istore 5, 2) := by decide +kernel
theorem dX2_judge_74 : decode cX2_judge 74 = .ok (.aload_n 0, 1) := by decide +kernel
theorem dX2_judge_75 : decode cX2_judge 75 = .ok (.getfield 15, 3) := by decide +kernel
theorem dX2_judge_78 : decode cX2_judge 78 = .ok (.iload_n 1, 1) := by decide +kernel
theorem dX2_judge_79 : decode cX2_judge 79 = .ok (.iaload, 1) := by decide +kernel
theorem dX2_judge_80 : decode cX2_judge 80 = .ok (.istore 6, 2) := by decide +kernel
theorem dX2_judge_82 : decode cX2_judge 82 = .ok (.aload_n 0, 1) := by decide +kernel
theorem dX2_judge_83 : decode cX2_judge 83 = .ok (.getfield 23, 3) := by decide +kernel
theorem dX2_judge_86 : decode cX2_judge 86 = .ok (.iload_n 2, 1) := by decide +kernel
theorem dX2_judge_87 : decode cX2_judge 87 = .ok (.aaload, 1) := by decide +kernel
theorem dX2_judge_88 : decode cX2_judge 88 = .ok (.iload 5, 2) := by decide +kernel
theorem dX2_judge_90 : decode cX2_judge 90 = .ok (.iaload, 1) := by decide +kernel
theorem dX2_judge_91 : decode cX2_judge 91 = .ok (.aload_n 0, 1) := by decide +kernel
theorem dX2_judge_92 : decode cX2_judge 92 = .ok (.getfield 23, 3) := by decide +kernel
theorem dX2_judge_95 : decode cX2_judge 95 = .ok (.iload_n 2, 1) := by decide +kernel
theorem dX2_judge_96 : decode cX2_judge 96 = .ok (.aaload, 1) := by decide +kernel
theorem dX2_judge_97 : decode cX2_judge 97 = .ok (.iload 6, 2) := by decide +kernel
theorem dX2_judge_99 : decode cX2_judge 99 = .ok (.iaload, 1) := by decide +kernel
theorem dX2_judge_100 : decode cX2_judge 100 = .ok (.if_icmp .ne 7, 3) := by decide +kernel
theorem dX2_judge_103 : decode cX2_judge 103 = .ok (.iconst 1, 1) := by decide +kernel
theorem dX2_judge_104 : decode cX2_judge 104 = .ok (.goto 4, 3) := by decide +kernel
theorem dX2_judge_107 : decode cX2_judge 107 = .ok (.iconst 0, 1) := by decide +kernel
theorem dX2_judge_108 : decode cX2_judge 108 = .ok (.istore 7, 2) := by decide +kernel
theorem dX2_judge_110 : decode cX2_judge 110 = .ok (.iload 7, 2) := by decide +kernel
theorem dX2_judge_112 : decode cX2_judge 112 = .ok (.ifCond .eq 43, 3) := by decide +kernel
theorem dX2_judge_115 : decode cX2_judge 115 = .ok (.aload_n 0, 1) := by decide +kernel
theorem dX2_judge_116 : decode cX2_judge 116 = .ok (.getfield 26, 3) := by decide +kernel
theorem dX2_judge_119 : decode cX2_judge 119 = .ok (.iload_n 2, 1) := by decide +kernel
theorem dX2_judge_120 : decode cX2_judge 120 = .ok (.aaload, 1) := by decide +kernel
theorem dX2_judge_121 : decode cX2_judge 121 = .ok (.iload 6, 2) := by decide +kernel
theorem dX2_judge_123 : decode cX2_judge 123 = .ok (.iaload, 1) := by decide +kernel
theorem dX2_judge_124 : decode cX2_judge 124 = .ok (.aload_n 0, 1) := by decide +kernel
theorem dX2_judge_125 : decode cX2_judge 125 = .ok (.getfield 26, 3) := by decide +kernel
theorem dX2_judge_128 : decode cX2_judge 128 = .ok (.iload_n 2, 1) := by decide +kernel
theorem dX2_judge_129 : decode cX2_judge 129 = .ok (.aaload, 1) := by decide +kernel
theorem dX2_judge_130 : decode cX2_judge 130 = .ok (.iload 5, 2) := by decide +kernel
theorem dX2_judge_132 : decode cX2_judge 132 = .ok (.iaload, 1) := by decide +kernel
theorem dX2_judge_133 : decode cX2_judge 133 = .ok (.isub, 1) := by decide +kernel
theorem dX2_judge_134 : decode cX2_judge 134 = .ok (.aload_n 0, 1) := by decide +kernel
theorem dX2_judge_135 : decode cX2_judge 135 = .ok (.getfield 18, 3) := by decide +kernel
theorem dX2_judge_138 : decode cX2_judge 138 = .ok (.iload_n 1, 1) := by decide +kernel
theorem dX2_judge_139 : decode cX2_judge 139 = .ok (.iaload, 1) := by decide +kernel
theorem dX2_judge_140 : decode cX2_judge 140 = .ok (.if_icmp .ne 15, 3) := by decide +kernel
theorem dX2_judge_143 : decode cX2_judge 143 = .ok (.aload_n 0, 1) := by decide +kernel
theorem dX2_judge_144 : decode cX2_judge 144 = .ok (.iload_n 1, 1) := by decide +kernel
theorem dX2_judge_145 : decode cX2_judge 145 = .ok (.iconst 1, 1) := by decide +kernel
theorem dX2_judge_146 : decode cX2_judge 146 = .ok (.isub, 1) := by decide +kernel
theorem dX2_judge_147 : decode cX2_judge 147 = .ok (.iload_n 2, 1) := by decide +kernel
theorem dX2_judge_148 : decode cX2_judge 148 = .ok (.iload_n 3, 1) := by decide +kernel
theorem dX2_judge_149 : decode cX2_judge 149 = .ok (.iload 4, 2) := by decide +kernel
theorem dX2_judge_151 : decode cX2_judge 151 = .ok (.invokevirtual 52, 3) := by decide +kernel
theorem dX2_judge_154 : decode cX2_judge 154 = .ok (.return_, 1) := by decide +kernel
theorem dX2_judge_155 : decode cX2_judge 155 = .ok (.iload 7, 2) := by decide +kernel
theorem dX2_judge_157 : decode cX2_judge 157 = .ok (.ifCond .ne 30, 3) := by decide +kernel
theorem dX2_judge_160 : decode cX2_judge 160 = .ok (.iload_n 2, 1) := by decide +kernel
theorem dX2_judge_161 : decode cX2_judge 161 = .ok (.iconst 1, 1) := by decide +kernel
theorem dX2_judge_162 : decode cX2_judge 162 = .ok (.iadd, 1) := by decide +kernel
theorem dX2_judge_163 : decode cX2_judge 163 = .ok (.bipush 10, 2) := by decide +kernel
theorem dX2_judge_165 : decode cX2_judge 165 = .ok (.if_icmp .ge 22, 3) := by decide +kernel
theorem dX2_judge_168 : decode cX2_judge 168 = .ok (.aload_n 0, 1) := by decide +kernel
theorem dX2_judge_169 : decode cX2_judge 169 = .ok (.iload_n 2, 1) := by decide +kernel
theorem dX2_judge_170 : decode cX2_judge 170 = .ok (.iload_n 1, 1) := by decide +kernel
theorem dX2_judge_171 : decode cX2_judge 171 = .ok (.invokevirtual 62, 3) := by decide +kernel
theorem dX2_judge_174 : decode cX2_judge 174 = .ok (.aload_n 0, 1) := by decide +kernel
theorem dX2_judge_175 : decode cX2_judge 175 = .ok (.iload_n 1, 1) := by decide +kernel
theorem dX2_judge_176 : decode cX2_judge 176 = .ok (.iconst 1, 1) := by decide +kernel
theorem dX2_judge_177 : decode cX2_judge 177 = .ok (.isub, 1) := by decide +kernel
theorem dX2_judge_178 : decode cX2_judge 178 = .ok (.iload_n 2, 1) := by decide +kernel
theorem dX2_judge_179 : decode cX2_judge 179 = .ok (.iconst 1, 1) := by decide +kernel
theorem dX2_judge_180 : decode cX2_judge 180 = .ok (.iadd, 1) := by decide +kernel
theorem dX2_judge_181 : decode cX2_judge 181 = .ok (.iload_n 3, 1) := by decide +kernel
theorem dX2_judge_182 : decode cX2_judge 182 = .ok (.iload 4, 2) := by decide +kernel
theorem dX2_judge_184 : decode cX2_judge 184 = .ok (.invokevirtual 52, 3) := by decide +kernel
theorem dX2_judge_187 : decode cX2_judge 187 = .ok (.aload_n 0, 1) := by decide +kernel
theorem dX2_judge_188 : decode cX2_judge 188 = .ok (.iload_n 1, 1) := by decide +kernel
theorem dX2_judge_189 : decode cX2_judge 189 = .ok (.iconst 1, 1) := by decide +kernel
theorem dX2_judge_190 : decode cX2_judge 190 = .ok (.isub, 1) := by decide +kernel
theorem dX2_judge_191 : decode cX2_judge 191 = .ok (.iload_n 2, 1) := by decide +kernel
theorem dX2_judge_192 : decode cX2_judge 192 = .ok (.iload_n 3, 1) := by decide +kernel
theorem dX2_judge_193 : decode cX2_judge 193 = .ok (.iconst 1, 1) := by decide +kernel
theorem dX2_judge_194 : decode cX2_judge 194 = .ok (.iload_n 1, 1) := by decide +kernel
theorem dX2_judge_195 : decode cX2_judge 195 = .ok (.ishl, 1) := by decide +kernel
theorem dX2_judge_196 : decode cX2_judge 196 = .ok (.ior, 1) := by decide +kernel
theorem dX2_judge_197 : decode cX2_judge 197 = .ok (.iload 4, 2) := by decide +kernel
theorem dX2_judge_199 : decode cX2_judge 199 = .ok (.iconst 1, 1) := by decide +kernel
theorem dX2_judge_200 : decode cX2_judge 200 = .ok (.iadd, 1) := by decide +kernel
theorem dX2_judge_201 : decode cX2_judge 201 = .ok (.invokevirtual 52, 3) := by decide +kernel
theorem dX2_judge_204 : decode cX2_judge 204 = .ok (.return_, 1) := by decide +kernel
theorem dX2_join_0 : decode cX2_join 0 = .ok (.aload_n 0, 1) := by decide +kernel
theorem dX2_join_1 : decode cX2_join 1 = .ok (.getfield 9, 3) := by decide +kernel
theorem dX2_join_4 : decode cX2_join 4 = .ok (.iload_n 2, 1) := by decide +kernel
theorem dX2_join_5 : decode cX2_join 5 = .ok (.iaload, 1) := by decide +kernel
theorem dX2_join_6 : decode cX2_join 6 = .ok (.istore_n 3, 1) := by decide +kernel
theorem dX2_join_7 : decode cX2_join 7 = .ok (.aload_n 0, 1) := by decide +kernel
theorem dX2_join_8 : decode cX2_join 8 = .ok (.getfield 15, 3) := by decide +kernel
theorem dX2_join_11 : decode cX2_join 11 = .ok (.iload_n 2, 1) := by decide +kernel
theorem dX2_join_12 : decode cX2_join 12 = .ok (.iaload, 1) := by decide +kernel
theorem dX2_join_13 : decode cX2_join 13 = .ok (.istore 4, 2) := by decide +kernel
theorem dX2_join_15 : decode cX2_join 15 = .ok (.aload_n 0, 1) := by decide +kernel
theorem dX2_join_16 : decode cX2_join 16 = .ok (.getfield 23, 3) := by decide +kernel
theorem dX2_join_19 : decode cX2_join 19 = .ok (.iload_n 1, 1) := by decide +kernel
theorem dX2_join_20 : decode cX2_join 20 = .ok (.aaload, 1) := by decide +kernel
theorem dX2_join_21 : decode cX2_join 21 = .ok (.iload_n 3, 1) := by decide +kernel
theorem dX2_join_22 : decode cX2_join 22 = .ok (.iaload, 1) := by decide +kernel
theorem dX2_join_23 : decode cX2_join 23 = .ok (.istore 5, 2) := by decide +kernel
theorem dX2_join_25 : decode cX2_join 25 = .ok (.aload_n 0, 1) := by decide +kernel
theorem dX2_join_26 : decode cX2_join 26 = .ok (.getfield 23, 3) := by decide +kernel
theorem dX2_join_29 : decode cX2_join 29 = .ok (.iload_n 1, 1) := by decide +kernel
theorem dX2_join_30 : decode cX2_join 30 = .ok (.aaload, 1) := by decide +kernel
theorem dX2_join_31 : decode cX2_join 31 = .ok (.iload 4, 2) := by decide +kernel
theorem dX2_join_33 : decode cX2_join 33 = .ok (.iaload, 1) := by decide +kernel
theorem dX2_join_34 : decode cX2_join 34 = .ok (.istore 6, 2) := by decide +kernel
theorem dX2_join_36 : decode cX2_join 36 = .ok (.aload_n 0, 1) := by decide +kernel
theorem dX2_join_37 : decode cX2_join 37 = .ok (.getfield 26, 3) := by decide +kernel
theorem dX2_join_40 : decode cX2_join 40 = .ok (.iload_n 1, 1) := by decide +kernel
theorem dX2_join_41 : decode cX2_join 41 = .ok (.aaload, 1) := by decide +kernel
theorem dX2_join_42 : decode cX2_join 42 = .ok (.iload_n 3, 1) := by decide +kernel
theorem dX2_join_43 : decode cX2_join 43 = .ok (.iaload, 1) := by decide +kernel
theorem dX2_join_44 : decode cX2_join 44 = .ok (.aload_n 0, 1) := by decide +kernel
theorem dX2_join_45 : decode cX2_join 45 = .ok (.getfield 18, 3) := by decide +kernel
theorem dX2_join_48 : decode cX2_join 48 = .ok (.iload_n 2, 1) := by decide +kernel
theorem dX2_join_49 : decode cX2_join 49 = .ok (.iaload, 1) := by decide +kernel
theorem dX2_join_50 : decode cX2_join 50 = .ok (.iadd, 1) := by decide +kernel
theorem dX2_join_51 : decode cX2_join 51 = .ok (.aload_n 0, 1) := by decide +kernel
theorem dX2_join_52 : decode cX2_join 52 = .ok (.getfield 26, 3) := by decide +kernel
theorem dX2_join_55 : decode cX2_join 55 = .ok (.iload_n 1, 1) := by decide +kernel
theorem dX2_join_56 : decode cX2_join 56 = .ok (.aaload, 1) := by decide +kernel
theorem dX2_join_57 : decode cX2_join 57 = .ok (.iload 4, 2) := by decide +kernel
theorem dX2_join_59 : decode cX2_join 59 = .ok (.iaload, 1) := by decide +kernel
theorem dX2_join_60 : decode cX2_join 60 = .ok (.isub, 1) := by decide +kernel
theorem dX2_join_61 : decode cX2_join 61 = .ok (.istore 7, 2) := by decide +kernel
theorem dX2_join_63 : decode cX2_join 63 = .ok (.iconst 0, 1) := by decide +kernel
theorem dX2_join_64 : decode cX2_join 64 = .ok (.istore 8, 2) := by decide +kernel
theorem dX2_join_66 : decode cX2_join 66 = .ok (.iload 8, 2) := by decide +kernel
theorem dX2_join_68 : decode cX2_join 68 = .ok (.bipush 10, 2) := by decide +kernel
theorem dX2_join_70 : decode cX2_join 70 = .ok (.if_icmp .ge 100, 3) := by decide +kernel
theorem dX2_join_73 : decode cX2_join 73 = .ok (.aload_n 0, 1) := by decide +kernel
theorem dX2_join_74 : decode cX2_join 74 = .ok (.getfield 23, 3) := by decide +kernel
theorem dX2_join_77 : decode cX2_join 77 = .ok (.iload_n 1, 1) := by decide +kernel
theorem dX2_join_78 : decode cX2_join 78 = .ok (.aaload, 1) := by decide +kernel
theorem dX2_join_79 : decode cX2_join 79 = .ok (.iload 8, 2) := by decide +kernel
theorem dX2_join_81 : decode cX2_join 81 = .ok (.iaload, 1) := by decide +kernel
theorem dX2_join_82 : decode cX2_join 82 = .ok (.iload 6, 2) := by decide +kernel
theorem dX2_join_84 : decode cX2_join 84 = .ok (.if_icmp .ne 7, 3) := by decide +kernel
theorem dX2_join_87 : decode cX2_join 87 = .ok (.iconst 1, 1) := by decide +kernel
theorem dX2_join_88 : decode cX2_join 88 = .ok (.goto 4, 3) := by decide +kernel
theorem dX2_join_91 : decode cX2_join 91 = .ok (.iconst 0, 1) := by decide +kernel
theorem dX2_join_92 : decode cX2_join 92 = .ok (.istore 9, 2) := by decide +kernel
theorem dX2_join_94 : decode cX2_join 94 = .ok (.aload_n 0, 1) := by decide +kernel
theorem dX2_join_95 : decode cX2_join 95 = .ok (.getfield 23, 3) := by decide +kernel
theorem dX2_join_98 : decode cX2_join 98 = .ok (.iload_n 1, 1) := by decide +kernel
theorem dX2_join_99 : decode cX2_join 99 = .ok (.iconst 1, 1) := by decide +kernel
theorem dX2_join_100 : decode cX2_join 100 = .ok (.iadd, 1) := by decide +kernel
theorem dX2_join_101 : decode cX2_join 101 = .ok (.aaload, 1) := by decide +kernel
theorem dX2_join_102 : decode cX2_join 102 = .ok (.iload 8, 2) := by decide +kernel
theorem dX2_join_104 : decode cX2_join 104 = .ok (.iload 9, 2) := by decide +kernel
theorem dX2_join_106 : decode cX2_join 106 = .ok (.ifCond .eq 8, 3) := by decide +kernel
theorem dX2_join_109 : decode cX2_join 109 = .ok (.iload 5, 2) := by decide +kernel
theorem dX2_join_111 : decode cX2_join 111 = .ok (.goto 12, 3) := by decide +kernel
theorem dX2_join_114 : decode cX2_join 114 = .ok (.aload_n 0, 1) := by decide +kernel
theorem dX2_join_115 : decode cX2_join 115 = .ok (.getfield 23, 3) := by decide +kernel
theorem dX2_join_118 : decode cX2_join 118 = .ok (.iload_n 1, 1) := by decide +kernel
theorem dX2_join_119 : decode cX2_join 119 = .ok (.aaload, 1) := by decide +kernel
theorem dX2_join_120 : decode cX2_join 120 = .ok (.iload 8, 2) := by decide +kernel
theorem dX2_join_122 : decode cX2_join 122 = .ok (.iaload, 1) := by decide +kernel
theorem dX2_join_123 : decode cX2_join 123 = .ok (.iastore, 1) := by decide +kernel
theorem dX2_join_124 : decode cX2_join 124 = .ok (.aload_n 0, 1) := by decide +kernel
theorem dX2_join_125 : decode cX2_join 125 = .ok (.getfield 26, 3) := by decide +kernel
theorem dX2_join_128 : decode cX2_join 128 = .ok (.iload_n 1, 1) := by decide +kernel
theorem dX2_join_129 : decode cX2_join 129 = .ok (.iconst 1, 1) := by decide +kernel
theorem dX2_join_130 : decode cX2_join 130 = .ok (.iadd, 1) := by decide +kernel
theorem dX2_join_131 : decode cX2_join 131 = .ok (.aaload, 1) := by decide +kernel
theorem dX2_join_132 : decode cX2_join 132 = .ok (.iload 8, 2) := by decide +kernel
theorem dX2_join_134 : decode cX2_join 134 = .ok (.iload 9, 2) := by decide +kernel
theorem dX2_join_136 : decode cX2_join 136 = .ok (.ifCond .eq 18, 3) := by decide +kernel
theorem dX2_join_139 : decode cX2_join 139 = .ok (.aload_n 0, 1) := by decide +kernel
theorem dX2_join_140 : decode cX2_join 140 = .ok (.getfield 26, 3) := by decide +kernel
theorem dX2_join_143 : decode cX2_join 143 = .ok (.iload_n 1, 1) := by decide +kernel
theorem dX2_join_144 : decode cX2_join 144 = .ok (.aaload, 1) := by decide +kernel
theorem dX2_join_145 : decode cX2_join 145 = .ok (.iload 8, 2) := by decide +kernel
theorem dX2_join_147 : decode cX2_join 147 = .ok (.iaload, 1) := by decide +kernel
theorem dX2_join_148 : decode cX2_join 148 = .ok (.iload 7, 2) := by decide +kernel
theorem dX2_join_150 : decode cX2_join 150 = .ok (.iadd, 1) := by decide +kernel
theorem dX2_join_151 : decode cX2_join 151 = .ok (.goto 12, 3) := by decide +kernel
theorem dX2_join_154 : decode cX2_join 154 = .ok (.aload_n 0, 1) := by decide +kernel
theorem dX2_join_155 : decode cX2_join 155 = .ok (.getfield 26, 3) := by decide +kernel
theorem dX2_join_158 : decode cX2_join 158 = .ok (.iload_n 1, 1) := by decide +kernel
theorem dX2_join_159 : decode cX2_join 159 = .ok (.aaload, 1) := by decide +kernel
theorem dX2_join_160 : decode cX2_join 160 = .ok (.iload 8, 2) := by decide +kernel
theorem dX2_join_162 : decode cX2_join 162 = .ok (.iaload, 1) := by decide +kernel
theorem dX2_join_163 : decode cX2_join 163 = .ok (.iastore, 1) := by decide +kernel
theorem dX2_join_164 : decode cX2_join 164 = .ok (.iinc 8 1, 3) := by decide +kernel
theorem dX2_join_167 : decode cX2_join 167 = .ok (.goto (-101), 3) := by decide +kernel
theorem dX2_join_170 : decode cX2_join 170 = .ok (.return_, 1) := by decide +kernel
theorem dX3_init_0 : decode cX3_init 0 = .ok (.aload_n 0, 1) := by decide +kernel
theorem dX3_init_1 : decode cX3_init 1 = .ok (.invokespecial 3, 3) := by decide +kernel
theorem dX3_init_4 : decode cX3_init 4 = .ok (.aload_n 0, 1) := by decide +kernel
theorem dX3_init_5 : decode cX3_init 5 = .ok (.bipush 40, 2) := by decide +kernel
theorem dX3_init_7 : decode cX3_init 7 = .ok (.newarray .boolean, 2) := by decide +kernel
theorem dX3_init_9 : decode cX3_init 9 = .ok (.putfield 9, 3) := by decide +kernel
theorem dX3_init_12 : decode cX3_init 12 = .ok (.aload_n 0, 1) := by decide +kernel
theorem dX3_init_13 : decode cX3_init 13 = .ok (.iconst 2, 1) := by decide +kernel
theorem dX3_init_14 : decode cX3_init 14 = .ok (.bipush 40, 2) := by decide +kernel
theorem dX3_init_16 : decode cX3_init 16 = .ok (.multianewarray 15 2, 4) := by decide +kernel
theorem dX3_init_20 : decode cX3_init 20 = .ok (.putfield 17, 3) := by decide +kernel
theorem dX3_init_23 : decode cX3_init 23 = .ok (.aload_n 0, 1) := by decide +kernel
theorem dX3_init_24 : decode cX3_init 24 = .ok (.bipush 10, 2) := by decide +kernel
theorem dX3_init_26 : decode cX3_init 26 = .ok (.newarray .int, 2) := by decide +kernel
theorem dX3_init_28 : decode cX3_init 28 = .ok (.putfield 20, 3) := by decide +kernel
theorem dX3_init_31 : decode cX3_init 31 = .ok (.aload_n 0, 1) := by decide +kernel
theorem dX3_init_32 : decode cX3_init 32 = .ok (.iconst 2, 1) := by decide +kernel
theorem dX3_init_33 : decode cX3_init 33 = .ok (.bipush 10, 2) := by decide +kernel
theorem dX3_init_35 : decode cX3_init 35 = .ok (.multianewarray 15 2, 4) := by decide +kernel
theorem dX3_init_39 : decode cX3_init 39 = .ok (.putfield 24, 3) := by decide +kernel
theorem dX3_init_42 : decode cX3_init 42 = .ok (.aload_n 0, 1) := by decide +kernel
theorem dX3_init_43 : decode cX3_init 43 = .ok (.iconst 2, 1) := by decide +kernel
theorem dX3_init_44 : decode cX3_init 44 = .ok (.newarray .int, 2) := by decide +kernel
theorem dX3_init_46 : decode cX3_init 46 = .ok (.putfield 27, 3) := by decide +kernel
theorem dX3_init_49 : decode cX3_init 49 = .ok (.aload_n 0, 1) := by decide +kernel
theorem dX3_init_50 : decode cX3_init 50 = .ok (.iconst 3, 1) := by decide +kernel
theorem dX3_init_51 : decode cX3_init 51 = .ok (.newarray .int, 2) := by decide +kernel
theorem dX3_init_53 : decode cX3_init 53 = .ok (.putfield 30, 3) := by decide +kernel
theorem dX3_init_56 : decode cX3_init 56 = .ok (.aload_n 0, 1) := by decide +kernel
theorem dX3_init_57 : decode cX3_init 57 = .ok (.iload_n 1, 1) := by decide +kernel
theorem dX3_init_58 : decode cX3_init 58 = .ok (.putfield 33, 3) := by decide +kernel
theorem dX3_init_61 : decode cX3_init 61 = .ok (.aload_n 0, 1) := by decide +kernel
theorem dX3_init_62 : decode cX3_init 62 = .ok (.iload_n 2, 1) := by decide +kernel
theorem dX3_init_63 : decode cX3_init 63 = .ok (.putfield 37, 3) := by decide +kernel
theorem dX3_init_66 : decode cX3_init 66 = .ok (.aload_n 0, 1) := by decide +kernel
theorem dX3_init_67 : decode cX3_init 67 = .ok (.iload_n 3, 1) := by decide +kernel
theorem dX3_init_68 : decode cX3_init 68 = .ok (.putfield 40, 3) := by decide +kernel
theorem dX3_init_71 : decode cX3_init 71 = .ok (.return_, 1) := by decide +kernel
theorem dX3_number_0 : decode cX3_number 0 = .ok (.aload_n 0, 1) := by decide +kernel
theorem dX3_number_1 : decode cX3_number 1 = .ok (.getfield 33, 3) := by decide +kernel
theorem dX3_number_4 : decode cX3_number 4 = .ok (.ireturn, 1) := by decide +kernel
theorem dX3_placeX_0 : decode cX3_placeX 0 = .ok (.aload_n 0, 1) := by decide +kernel
theorem dX3_placeX_1 : decode cX3_placeX 1 = .ok (.getfield 37, 3) := by decide +kernel
theorem dX3_placeX_4 : decode cX3_placeX 4 = .ok (.ireturn, 1) := by decide +kernel
theorem dX3_placeY_0 : decode cX3_placeY 0 = .ok (.aload_n 0, 1) := by decide +kernel
theorem dX3_placeY_1 : decode cX3_placeY 1 = .ok (.getfield 40, 3) := by decide +kernel
theorem dX3_placeY_4 : decode cX3_placeY 4 = .ok (.ireturn, 1) := by decide +kernel
theorem dX3_readingCount_0 : decode cX3_readingCount 0 = .ok (.aload_n 0, 1) := by decide +kernel
theorem dX3_readingCount_1 : decode cX3_readingCount 1 = .ok (.getfield 43, 3) := by decide +kernel
theorem dX3_readingCount_4 : decode cX3_readingCount 4 = .ok (.ireturn, 1) := by decide +kernel
theorem dX3_stepCount_0 : decode cX3_stepCount 0 = .ok (.aload_n 0, 1) := by decide +kernel
theorem dX3_stepCount_1 : decode cX3_stepCount 1 = .ok (.getfield 46, 3) := by decide +kernel
theorem dX3_stepCount_4 : decode cX3_stepCount 4 = .ok (.ireturn, 1) := by decide +kernel
theorem dX3_speed_0 : decode cX3_speed 0 = .ok (.aload_n 0, 1) := by decide +kernel
theorem dX3_speed_1 : decode cX3_speed 1 = .ok (.getfield 27, 3) := by decide +kernel
theorem dX3_speed_4 : decode cX3_speed 4 = .ok (.iload_n 1, 1) := by decide +kernel
theorem dX3_speed_5 : decode cX3_speed 5 = .ok (.iaload, 1) := by decide +kernel
theorem dX3_speed_6 : decode cX3_speed 6 = .ok (.ireturn, 1) := by decide +kernel
theorem dX3_setSpeed_0 : decode cX3_setSpeed 0 = .ok (.aload_n 0, 1) := by decide +kernel
theorem dX3_setSpeed_1 : decode cX3_setSpeed 1 = .ok (.getfield 27, 3) := by decide +kernel
theorem dX3_setSpeed_4 : decode cX3_setSpeed 4 = .ok (.iconst 0, 1) := by decide +kernel
theorem dX3_setSpeed_5 : decode cX3_setSpeed 5 = .ok (.iload_n 1, 1) := by decide +kernel
theorem dX3_setSpeed_6 : decode cX3_setSpeed 6 = .ok (.iastore, 1) := by decide +kernel
theorem dX3_setSpeed_7 : decode cX3_setSpeed 7 = .ok (.aload_n 0, 1) := by decide +kernel
theorem dX3_setSpeed_8 : decode cX3_setSpeed 8 = .ok (.getfield 27, 3) := by decide +kernel
theorem dX3_setSpeed_11 : decode cX3_setSpeed 11 = .ok (.iconst 1, 1) := by decide +kernel
theorem dX3_setSpeed_12 : decode cX3_setSpeed 12 = .ok (.iload_n 2, 1) := by decide +kernel
theorem dX3_setSpeed_13 : decode cX3_setSpeed 13 = .ok (.iastore, 1) := by decide +kernel
theorem dX3_setSpeed_14 : decode cX3_setSpeed 14 = .ok (.return_, 1) := by decide +kernel
theorem dX3_greenOf_0 : decode cX3_greenOf 0 = .ok (.aload_n 0, 1) := by decide +kernel
theorem dX3_greenOf_1 : decode cX3_greenOf 1 = .ok (.getfield 30, 3) := by decide +kernel
theorem dX3_greenOf_4 : decode cX3_greenOf 4 = .ok (.iload_n 1, 1) := by decide +kernel
theorem dX3_greenOf_5 : decode cX3_greenOf 5 = .ok (.iaload, 1) := by decide +kernel
theorem dX3_greenOf_6 : decode cX3_greenOf 6 = .ok (.ireturn, 1) := by decide +kernel
theorem dX3_setGreen_0 : decode cX3_setGreen 0 = .ok (.aload_n 0, 1) := by decide +kernel
theorem dX3_setGreen_1 : decode cX3_setGreen 1 = .ok (.getfield 30, 3) := by decide +kernel
theorem dX3_setGreen_4 : decode cX3_setGreen 4 = .ok (.iload_n 1, 1) := by decide +kernel
theorem dX3_setGreen_5 : decode cX3_setGreen 5 = .ok (.iload_n 2, 1) := by decide +kernel
theorem dX3_setGreen_6 : decode cX3_setGreen 6 = .ok (.iastore, 1) := by decide +kernel
theorem dX3_setGreen_7 : decode cX3_setGreen 7 = .ok (.return_, 1) := by decide +kernel
theorem dX3_hasReading_0 : decode cX3_hasReading 0 = .ok (.aload_n 0, 1) := by decide +kernel
theorem dX3_hasReading_1 : decode cX3_hasReading 1 = .ok (.getfield 9, 3) := by decide +kernel
theorem dX3_hasReading_4 : decode cX3_hasReading 4 = .ok (.iload_n 1, 1) := by decide +kernel
theorem dX3_hasReading_5 : decode cX3_hasReading 5 = .ok (.baload, 1) := by decide +kernel
theorem dX3_hasReading_6 : decode cX3_hasReading 6 = .ok (.ireturn, 1) := by decide +kernel
theorem dX3_rawValue_0 : decode cX3_rawValue 0 = .ok (.aload_n 0, 1) := by decide +kernel
theorem dX3_rawValue_1 : decode cX3_rawValue 1 = .ok (.getfield 17, 3) := by decide +kernel
theorem dX3_rawValue_4 : decode cX3_rawValue 4 = .ok (.iload_n 2, 1) := by decide +kernel
theorem dX3_rawValue_5 : decode cX3_rawValue 5 = .ok (.aaload, 1) := by decide +kernel
theorem dX3_rawValue_6 : decode cX3_rawValue 6 = .ok (.iload_n 1, 1) := by decide +kernel
theorem dX3_rawValue_7 : decode cX3_rawValue 7 = .ok (.iaload, 1) := by decide +kernel
theorem dX3_rawValue_8 : decode cX3_rawValue 8 = .ok (.ireturn, 1) := by decide +kernel
theorem dX3_putReading_0 : decode cX3_putReading 0 = .ok (.aload_n 0, 1) := by decide +kernel
theorem dX3_putReading_1 : decode cX3_putReading 1 = .ok (.getfield 9, 3) := by decide +kernel
theorem dX3_putReading_4 : decode cX3_putReading 4 = .ok (.iload_n 1, 1) := by decide +kernel
theorem dX3_putReading_5 : decode cX3_putReading 5 = .ok (.baload, 1) := by decide +kernel
theorem dX3_putReading_6 : decode cX3_putReading 6 = .ok (.ifCond .ne 7, 3) := by decide +kernel
theorem dX3_putReading_9 : decode cX3_putReading 9 = .ok (.iconst 1, 1) := by decide +kernel
theorem dX3_putReading_10 : decode cX3_putReading 10 = .ok (.goto 4, 3) := by decide +kernel
theorem dX3_putReading_13 : decode cX3_putReading 13 = .ok (.iconst 0, 1) := by decide +kernel
theorem dX3_putReading_14 : decode cX3_putReading 14 = .ok (.istore 4, 2) := by decide +kernel
theorem dX3_putReading_16 : decode cX3_putReading 16 = .ok (.iload 4, 2) := by decide +kernel
theorem dX3_putReading_18 : decode cX3_putReading 18 = .ok (.ifCond .eq 20, 3) := by decide +kernel
theorem dX3_putReading_21 : decode cX3_putReading 21 = .ok (.aload_n 0, 1) := by decide +kernel
theorem dX3_putReading_22 : decode cX3_putReading 22 = .ok (.getfield 9, 3) := by decide +kernel
theorem dX3_putReading_25 : decode cX3_putReading 25 = .ok (.iload_n 1, 1) := by decide +kernel
theorem dX3_putReading_26 : decode cX3_putReading 26 = .ok (.iconst 1, 1) := by decide +kernel
theorem dX3_putReading_27 : decode cX3_putReading 27 = .ok (.bastore, 1) := by decide +kernel
theorem dX3_putReading_28 : decode cX3_putReading 28 = .ok (.aload_n 0, 1) := by decide +kernel
theorem dX3_putReading_29 : decode cX3_putReading 29 = .ok (.dup, 1) := by decide +kernel
theorem dX3_putReading_30 : decode cX3_putReading 30 = .ok (.getfield 43, 3) := by decide +kernel
theorem dX3_putReading_33 : decode cX3_putReading 33 = .ok (.iconst 1, 1) := by decide +kernel
theorem dX3_putReading_34 : decode cX3_putReading 34 = .ok (.iadd, 1) := by decide +kernel
theorem dX3_putReading_35 : decode cX3_putReading 35 = .ok (.putfield 43, 3) := by decide +kernel
theorem dX3_putReading_38 : decode cX3_putReading 38 = .ok (.aload_n 0, 1) := by decide +kernel
theorem dX3_putReading_39 : decode cX3_putReading 39 = .ok (.getfield 17, 3) := by decide +kernel
theorem dX3_putReading_42 : decode cX3_putReading 42 = .ok (.iconst 0, 1) := by decide +kernel
theorem dX3_putReading_43 : decode cX3_putReading 43 = .ok (.aaload, 1) := by decide +kernel
theorem dX3_putReading_44 : decode cX3_putReading 44 = .ok (.iload_n 1, 1) := by decide +kernel
theorem dX3_putReading_45 : decode cX3_putReading 45 = .ok (.iload_n 2, 1) := by decide +kernel
theorem dX3_putReading_46 : decode cX3_putReading 46 = .ok (.iastore, 1) := by decide +kernel
theorem dX3_putReading_47 : decode cX3_putReading 47 = .ok (.aload_n 0, 1) := by decide +kernel
theorem dX3_putReading_48 : decode cX3_putReading 48 = .ok (.getfield 17, 3) := by decide +kernel
theorem dX3_putReading_51 : decode cX3_putReading 51 = .ok (.iconst 1, 1) := by decide +kernel
theorem dX3_putReading_52 : decode cX3_putReading 52 = .ok (.aaload, 1) := by decide +kernel
theorem dX3_putReading_53 : decode cX3_putReading 53 = .ok (.iload_n 1, 1) := by decide +kernel
theorem dX3_putReading_54 : decode cX3_putReading 54 = .ok (.iload_n 3, 1) := by decide +kernel
theorem dX3_putReading_55 : decode cX3_putReading 55 = .ok (.iastore, 1) := by decide +kernel
theorem dX3_putReading_56 : decode cX3_putReading 56 = .ok (.iload 4, 2) := by decide +kernel
theorem dX3_putReading_58 : decode cX3_putReading 58 = .ok (.ireturn, 1) := by decide +kernel
theorem dX3_dropReading_0 : decode cX3_dropReading 0 = .ok (.aload_n 0, 1) := by decide +kernel
theorem dX3_dropReading_1 : decode cX3_dropReading 1 = .ok (.getfield 9, 3) := by decide +kernel
theorem dX3_dropReading_4 : decode cX3_dropReading 4 = .ok (.iload_n 1, 1) := by decide +kernel
theorem dX3_dropReading_5 : decode cX3_dropReading 5 = .ok (.baload, 1) := by decide +kernel
theorem dX3_dropReading_6 : decode cX3_dropReading 6 = .ok (.istore_n 2, 1) := by decide +kernel
theorem dX3_dropReading_7 : decode cX3_dropReading 7 = .ok (.iload_n 2, 1) := by decide +kernel
theorem dX3_dropReading_8 : decode cX3_dropReading 8 = .ok (.ifCond .eq 20, 3) := by decide +kernel
theorem dX3_dropReading_11 : decode cX3_dropReading 11 = .ok (.aload_n 0, 1) := by decide +kernel
theorem dX3_dropReading_12 : decode cX3_dropReading 12 = .ok (.getfield 9, 3) := by decide +kernel
theorem dX3_dropReading_15 : decode cX3_dropReading 15 = .ok (.iload_n 1, 1) := by decide +kernel
theorem dX3_dropReading_16 : decode cX3_dropReading 16 = .ok (.iconst 0, 1) := by decide +kernel
theorem dX3_dropReading_17 : decode cX3_dropReading 17 = .ok (.bastore, 1) := by decide +kernel
theorem dX3_dropReading_18 : decode cX3_dropReading 18 = .ok (.aload_n 0, 1) := by decide +kernel
theorem dX3_dropReading_19 : decode cX3_dropReading 19 = .ok (.dup, 1) := by decide +kernel
theorem dX3_dropReading_20 : decode cX3_dropReading 20 = .ok (.getfield 43, 3) := by decide +kernel
theorem dX3_dropReading_23 : decode cX3_dropReading 23 = .ok (.iconst 1, 1) := by decide +kernel
theorem dX3_dropReading_24 : decode cX3_dropReading 24 = .ok (.isub, 1) := by decide +kernel
theorem dX3_dropReading_25 : decode cX3_dropReading 25 = .ok (.putfield 43, 3) := by decide +kernel
theorem dX3_dropReading_28 : decode cX3_dropReading 28 = .ok (.iload_n 2, 1) := by decide +kernel
theorem dX3_dropReading_29 : decode cX3_dropReading 29 = .ok (.ireturn, 1) := by decide +kernel
theorem dX3_addStep_0 : decode cX3_addStep 0 = .ok (.aload_n 0, 1) := by decide +kernel
theorem dX3_addStep_1 : decode cX3_addStep 1 = .ok (.getfield 46, 3) := by decide +kernel
theorem dX3_addStep_4 : decode cX3_addStep 4 = .ok (.bipush 10, 2) := by decide +kernel
theorem dX3_addStep_6 : decode cX3_addStep 6 = .ok (.if_icmp .lt 5, 3) := by decide +kernel
theorem dX3_addStep_9 : decode cX3_addStep 9 = .ok (.iconst 0, 1) := by decide +kernel
theorem dX3_addStep_10 : decode cX3_addStep 10 = .ok (.ireturn, 1) := by decide +kernel
theorem dX3_addStep_11 : decode cX3_addStep 11 = .ok (.aload_n 0, 1) := by decide +kernel
theorem dX3_addStep_12 : decode cX3_addStep 12 = .ok (.getfield 20, 3) := by decide +kernel
theorem dX3_addStep_15 : decode cX3_addStep 15 = .ok (.aload_n 0, 1) := by decide +kernel
theorem dX3_addStep_16 : decode cX3_addStep 16 = .ok (.getfield 46, 3) := by decide +kernel
theorem dX3_addStep_19 : decode cX3_addStep 19 = .ok (.iload_n 1, 1) := by decide +kernel
theorem dX3_addStep_20 : decode cX3_addStep 20 = .ok (.iastore, 1) := by decide +kernel
theorem dX3_addStep_21 : decode cX3_addStep 21 = .ok (.aload_n 0, 1) := by decide +kernel
theorem dX3_addStep_22 : decode cX3_addStep 22 = .ok (.getfield 24, 3) := by decide +kernel
theorem dX3_addStep_25 : decode cX3_addStep 25 = .ok (.iconst 0, 1) := by decide +kernel
theorem dX3_addStep_26 : decode cX3_addStep 26 = .ok (.aaload, 1) := by decide +kernel
theorem dX3_addStep_27 : decode cX3_addStep 27 = .ok (.aload_n 0, 1) := by decide +kernel
theorem dX3_addStep_28 : decode cX3_addStep 28 = .ok (.getfield 46, 3) := by decide +kernel
theorem dX3_addStep_31 : decode cX3_addStep 31 = .ok (.iload_n 2, 1) := by decide +kernel
theorem dX3_addStep_32 : decode cX3_addStep 32 = .ok (.iastore, 1) := by decide +kernel
theorem dX3_addStep_33 : decode cX3_addStep 33 = .ok (.aload_n 0, 1) := by decide +kernel
theorem dX3_addStep_34 : decode cX3_addStep 34 = .ok (.getfield 24, 3) := by decide +kernel
theorem dX3_addStep_37 : decode cX3_addStep 37 = .ok (.iconst 1, 1) := by decide +kernel
theorem dX3_addStep_38 : decode cX3_addStep 38 = .ok (.aaload, 1) := by decide +kernel
theorem dX3_addStep_39 : decode cX3_addStep 39 = .ok (.aload_n 0, 1) := by decide +kernel
theorem dX3_addStep_40 : decode cX3_addStep 40 = .ok (.getfield 46, 3) := by decide +kernel
theorem dX3_addStep_43 : decode cX3_addStep 43 = .ok (.iload_n 3, 1) := by decide +kernel
theorem dX3_addStep_44 : decode cX3_addStep 44 = .ok (.iastore, 1) := by decide +kernel
theorem dX3_addStep_45 : decode cX3_addStep 45 = .ok (.aload_n 0, 1) := by decide +kernel
theorem dX3_addStep_46 : decode cX3_addStep 46 = .ok (.dup, 1) := by decide +kernel
theorem dX3_addStep_47 : decode cX3_addStep 47 = .ok (.getfield 46, 3) := by decide +kernel
theorem dX3_addStep_50 : decode cX3_addStep 50 = .ok (.iconst 1, 1) := by decide +kernel
theorem dX3_addStep_51 : decode cX3_addStep 51 = .ok (.iadd, 1) := by decide +kernel
theorem dX3_addStep_52 : decode cX3_addStep 52 = .ok (.putfield 46, 3) := by decide +kernel
theorem dX3_addStep_55 : decode cX3_addStep 55 = .ok (.iconst 1, 1) := by decide +kernel
theorem dX3_addStep_56 : decode cX3_addStep 56 = .ok (.ireturn, 1) := by decide +kernel
set_option maxRecDepth 20000 in
theorem ggX3_isCleared_X3_clearFrom : GoodIn wsX3_isCleared wsX3_clearFrom := goodIn_r _ [7] (by decide +kernel) (by decide +kernel)
set_option maxRecDepth 20000 in
theorem gX3_isCleared_X3_clearFrom_u49X1 : GoodIn wsX3_isCleared (va_wsU RX3 49 RX1 "CreepBoard$Mark" ⟨"CreepBoard$Mark", "clearFrom", "()I"⟩ yX3_clearFrom wsX3_clearFrom) := goodIn_app (goodIn_of _ (by decide +kernel)) ggX3_isCleared_X3_clearFrom
set_option maxRecDepth 20000 in
theorem gX3_isCleared_X3_clearFrom : GoodIn wsX3_isCleared (wsV RX3 49 RX3 yX3_clearFrom wsX3_clearFrom) := goodIn_app (goodIn_of _ (by decide +kernel)) ggX3_isCleared_X3_clearFrom
set_option maxRecDepth 20000 in
theorem gX3_isCleared_X3_clearFrom_u49X4 : GoodIn wsX3_isCleared (va_wsU RX3 49 RX4 "CreepBoard$Mark" ⟨"CreepBoard$Mark", "clearFrom", "()I"⟩ yX3_clearFrom wsX3_clearFrom) := goodIn_app (goodIn_of _ (by decide +kernel)) ggX3_isCleared_X3_clearFrom
set_option maxRecDepth 20000 in
theorem ggX3_isCleared_X8_clearFrom : GoodIn wsX3_isCleared wsX8_clearFrom := goodIn_r _ [15, 16, 17, 18, 19, 6, 20, 1, 21, 22, 23, 24, 25, 26, 27, 28, 29, 30, 31, 32, 33, 34, 35, 36, 37, 38, 39, 40, 41, 42, 43, 44, 45, 46, 47, 48, 49, 50, 51, 52, 53, 54, 55, 56, 57, 58, 59, 60, 61, 62, 63, 64, 65, 66, 67, 68] (by decide +kernel) (by decide +kernel)
set_option maxRecDepth 20000 in
theorem gX3_isCleared_X8_clearFrom_u49X8 : GoodIn wsX3_isCleared (va_wsO RX3 49 RX8 "CreepBoard$Mark" ⟨"CreepBoard$Mark", "clearFrom", "()I"⟩ yX8_clearFrom wsX8_clearFrom) := goodIn_app (goodIn_of _ (by decide +kernel)) ggX3_isCleared_X8_clearFrom
theorem dX3_isCleared_0 : decode cX3_isCleared 0 = .ok (.aload_n 0, 1) := by decide +kernel
theorem dX3_isCleared_1 : decode cX3_isCleared 1 = .ok (.getfield 9, 3) := by decide +kernel
theorem dX3_isCleared_4 : decode cX3_isCleared 4 = .ok (.iload_n 1, 1) := by decide +kernel
theorem dX3_isCleared_5 : decode cX3_isCleared 5 = .ok (.baload, 1) := by decide +kernel
theorem dX3_isCleared_6 : decode cX3_isCleared 6 = .ok (.ifCond .eq 15, 3) := by decide +kernel
theorem dX3_isCleared_9 : decode cX3_isCleared 9 = .ok (.iload_n 1, 1) := by decide +kernel
theorem dX3_isCleared_10 : decode cX3_isCleared 10 = .ok (.aload_n 0, 1) := by decide +kernel
theorem dX3_isCleared_11 : decode cX3_isCleared 11 = .ok (.invokevirtual 49, 3) := by decide +kernel
theorem dX3_isCleared_14 : decode cX3_isCleared 14 = .ok (.if_icmp .lt 7, 3) := by decide +kernel
theorem dX3_isCleared_17 : decode cX3_isCleared 17 = .ok (.iconst 1, 1) := by decide +kernel
theorem dX3_isCleared_18 : decode cX3_isCleared 18 = .ok (.goto 4, 3) := by decide +kernel
theorem dX3_isCleared_21 : decode cX3_isCleared 21 = .ok (.iconst 0, 1) := by decide +kernel
theorem dX3_isCleared_22 : decode cX3_isCleared 22 = .ok (.ireturn, 1) := by decide +kernel
set_option maxRecDepth 20000 in
theorem ggX3_firstCleared_X3_clearFrom : GoodIn wsX3_firstCleared wsX3_clearFrom := goodIn_r _ [7] (by decide +kernel) (by decide +kernel)
set_option maxRecDepth 20000 in
theorem gX3_firstCleared_X3_clearFrom_u49X1 : GoodIn wsX3_firstCleared (va_wsU RX3 49 RX1 "CreepBoard$Mark" ⟨"CreepBoard$Mark", "clearFrom", "()I"⟩ yX3_clearFrom wsX3_clearFrom) := goodIn_app (goodIn_of _ (by decide +kernel)) ggX3_firstCleared_X3_clearFrom
set_option maxRecDepth 20000 in
theorem gX3_firstCleared_X3_clearFrom : GoodIn wsX3_firstCleared (wsV RX3 49 RX3 yX3_clearFrom wsX3_clearFrom) := goodIn_app (goodIn_of _ (by decide +kernel)) ggX3_firstCleared_X3_clearFrom
set_option maxRecDepth 20000 in
theorem gX3_firstCleared_X3_clearFrom_u49X4 : GoodIn wsX3_firstCleared (va_wsU RX3 49 RX4 "CreepBoard$Mark" ⟨"CreepBoard$Mark", "clearFrom", "()I"⟩ yX3_clearFrom wsX3_clearFrom) := goodIn_app (goodIn_of _ (by decide +kernel)) ggX3_firstCleared_X3_clearFrom
set_option maxRecDepth 20000 in
theorem ggX3_firstCleared_X8_clearFrom : GoodIn wsX3_firstCleared wsX8_clearFrom := goodIn_r _ [15, 16, 17, 18, 19, 6, 20, 1, 21, 22, 23, 24, 25, 26, 27, 28, 29, 30, 31, 32, 33, 34, 35, 36, 37, 38, 39, 40, 41, 42, 43, 44, 45, 46, 47, 48, 49, 50, 51, 52, 53, 54, 55, 56, 57, 58, 59, 60, 61, 62, 63, 64, 65, 66, 67, 68] (by decide +kernel) (by decide +kernel)
set_option maxRecDepth 20000 in
theorem gX3_firstCleared_X8_clearFrom_u49X8 : GoodIn wsX3_firstCleared (va_wsO RX3 49 RX8 "CreepBoard$Mark" ⟨"CreepBoard$Mark", "clearFrom", "()I"⟩ yX8_clearFrom wsX8_clearFrom) := goodIn_app (goodIn_of _ (by decide +kernel)) ggX3_firstCleared_X8_clearFrom
theorem dX3_firstCleared_0 : decode cX3_firstCleared 0 = .ok (.aload_n 0, 1) := by decide +kernel
theorem dX3_firstCleared_1 : decode cX3_firstCleared 1 = .ok (.invokevirtual 49, 3) := by decide +kernel
theorem dX3_firstCleared_4 : decode cX3_firstCleared 4 = .ok (.istore_n 2, 1) := by decide +kernel
theorem dX3_firstCleared_5 : decode cX3_firstCleared 5 = .ok (.iload_n 2, 1) := by decide +kernel
theorem dX3_firstCleared_6 : decode cX3_firstCleared 6 = .ok (.iload_n 1, 1) := by decide +kernel
theorem dX3_firstCleared_7 : decode cX3_firstCleared 7 = .ok (.if_icmp .ge 20, 3) := by decide +kernel
theorem dX3_firstCleared_10 : decode cX3_firstCleared 10 = .ok (.aload_n 0, 1) := by decide +kernel
theorem dX3_firstCleared_11 : decode cX3_firstCleared 11 = .ok (.getfield 9, 3) := by decide +kernel
theorem dX3_firstCleared_14 : decode cX3_firstCleared 14 = .ok (.iload_n 2, 1) := by decide +kernel
theorem dX3_firstCleared_15 : decode cX3_firstCleared 15 = .ok (.baload, 1) := by decide +kernel
theorem dX3_firstCleared_16 : decode cX3_firstCleared 16 = .ok (.ifCond .eq 5, 3) := by decide +kernel
theorem dX3_firstCleared_19 : decode cX3_firstCleared 19 = .ok (.iload_n 2, 1) := by decide +kernel
theorem dX3_firstCleared_20 : decode cX3_firstCleared 20 = .ok (.ireturn, 1) := by decide +kernel
theorem dX3_firstCleared_21 : decode cX3_firstCleared 21 = .ok (.iinc 2 1, 3) := by decide +kernel
theorem dX3_firstCleared_24 : decode cX3_firstCleared 24 = .ok (.goto (-19), 3) := by decide +kernel
theorem dX3_firstCleared_27 : decode cX3_firstCleared 27 = .ok (.iload_n 1, 1) := by decide +kernel
theorem dX3_firstCleared_28 : decode cX3_firstCleared 28 = .ok (.ireturn, 1) := by decide +kernel
theorem dX3_clearFrom_0 : decode cX3_clearFrom 0 = .ok (.iconst 0, 1) := by decide +kernel
theorem dX3_clearFrom_1 : decode cX3_clearFrom 1 = .ok (.ireturn, 1) := by decide +kernel
theorem dX3_clearedValue_0 : decode cX3_clearedValue 0 = .ok (.aload_n 0, 1) := by decide +kernel
theorem dX3_clearedValue_1 : decode cX3_clearedValue 1 = .ok (.getfield 17, 3) := by decide +kernel
theorem dX3_clearedValue_4 : decode cX3_clearedValue 4 = .ok (.iload_n 2, 1) := by decide +kernel
theorem dX3_clearedValue_5 : decode cX3_clearedValue 5 = .ok (.aaload, 1) := by decide +kernel
theorem dX3_clearedValue_6 : decode cX3_clearedValue 6 = .ok (.iload_n 1, 1) := by decide +kernel
theorem dX3_clearedValue_7 : decode cX3_clearedValue 7 = .ok (.iaload, 1) := by decide +kernel
theorem dX3_clearedValue_8 : decode cX3_clearedValue 8 = .ok (.i2l, 1) := by decide +kernel
theorem dX3_clearedValue_9 : decode cX3_clearedValue 9 = .ok (.lstore_n 3, 1) := by decide +kernel
theorem dX3_clearedValue_10 : decode cX3_clearedValue 10 = .ok (.iconst 0, 1) := by decide +kernel
theorem dX3_clearedValue_11 : decode cX3_clearedValue 11 = .ok (.istore 5, 2) := by decide +kernel
theorem dX3_clearedValue_13 : decode cX3_clearedValue 13 = .ok (.iload 5, 2) := by decide +kernel
theorem dX3_clearedValue_15 : decode cX3_clearedValue 15 = .ok (.aload_n 0, 1) := by decide +kernel
theorem dX3_clearedValue_16 : decode cX3_clearedValue 16 = .ok (.getfield 46, 3) := by decide +kernel
theorem dX3_clearedValue_19 : decode cX3_clearedValue 19 = .ok (.if_icmp .ge 33, 3) := by decide +kernel
theorem dX3_clearedValue_22 : decode cX3_clearedValue 22 = .ok (.aload_n 0, 1) := by decide +kernel
theorem dX3_clearedValue_23 : decode cX3_clearedValue 23 = .ok (.getfield 20, 3) := by decide +kernel
theorem dX3_clearedValue_26 : decode cX3_clearedValue 26 = .ok (.iload 5, 2) := by decide +kernel
theorem dX3_clearedValue_28 : decode cX3_clearedValue 28 = .ok (.iaload, 1) := by decide +kernel
theorem dX3_clearedValue_29 : decode cX3_clearedValue 29 = .ok (.iload_n 1, 1) := by decide +kernel
theorem dX3_clearedValue_30 : decode cX3_clearedValue 30 = .ok (.if_icmp .gt 16, 3) := by decide +kernel
theorem dX3_clearedValue_33 : decode cX3_clearedValue 33 = .ok (.lload_n 3, 1) := by decide +kernel
theorem dX3_clearedValue_34 : decode cX3_clearedValue 34 = .ok (.aload_n 0, 1) := by decide +kernel
theorem dX3_clearedValue_35 : decode cX3_clearedValue 35 = .ok (.getfield 24, 3) := by decide +kernel
theorem dX3_clearedValue_38 : decode cX3_clearedValue 38 = .ok (.iload_n 2, 1) := by decide +kernel
theorem dX3_clearedValue_39 : decode cX3_clearedValue 39 = .ok (.aaload, 1) := by decide +kernel
theorem dX3_clearedValue_40 : decode cX3_clearedValue 40 = .ok (.iload 5, 2) := by decide +kernel
theorem dX3_clearedValue_42 : decode cX3_clearedValue 42 = .ok (.iaload, 1) := by decide +kernel
theorem dX3_clearedValue_43 : decode cX3_clearedValue 43 = .ok (.i2l, 1) := by decide +kernel
theorem dX3_clearedValue_44 : decode cX3_clearedValue 44 = .ok (.lsub, 1) := by decide +kernel
theorem dX3_clearedValue_45 : decode cX3_clearedValue 45 = .ok (.lstore_n 3, 1) := by decide +kernel
theorem dX3_clearedValue_46 : decode cX3_clearedValue 46 = .ok (.iinc 5 1, 3) := by decide +kernel
theorem dX3_clearedValue_49 : decode cX3_clearedValue 49 = .ok (.goto (-36), 3) := by decide +kernel
theorem dX3_clearedValue_52 : decode cX3_clearedValue 52 = .ok (.lload_n 3, 1) := by decide +kernel
theorem dX3_clearedValue_53 : decode cX3_clearedValue 53 = .ok (.lreturn, 1) := by decide +kernel
theorem dX3_heft_0 : decode cX3_heft 0 = .ok (.bipush 10, 2) := by decide +kernel
theorem dX3_heft_2 : decode cX3_heft 2 = .ok (.aload_n 0, 1) := by decide +kernel
theorem dX3_heft_3 : decode cX3_heft 3 = .ok (.getfield 43, 3) := by decide +kernel
theorem dX3_heft_6 : decode cX3_heft 6 = .ok (.iadd, 1) := by decide +kernel
theorem dX3_heft_7 : decode cX3_heft 7 = .ok (.ireturn, 1) := by decide +kernel
theorem dX3_fail_0 : decode cX3_fail 0 = .ok (.return_, 1) := by decide +kernel
set_option maxRecDepth 20000 in
theorem ggX4_init_X3_init : GoodIn wsX4_init wsX3_init := goodIn_r _ [4, 5, 6, 7, 8, 9, 10, 11, 12, 13, 14, 15, 16, 17, 18, 19, 20, 21, 22, 23, 24, 25, 26, 27, 28, 29, 30, 31, 32, 33, 34, 35, 36, 37, 38, 39, 40, 41, 42, 43, 44, 45, 46, 47, 48, 49, 50, 51, 52, 53, 54, 55, 56, 57, 58, 59, 60, 61, 62, 63, 64, 65, 66, 67] (by decide +kernel) (by decide +kernel)
set_option maxRecDepth 20000 in
theorem gX4_init_X3_init : GoodIn wsX4_init (wsX3_init) := ggX4_init_X3_init
theorem dX4_init_0 : decode cX4_init 0 = .ok (.aload_n 0, 1) := by decide +kernel
theorem dX4_init_1 : decode cX4_init 1 = .ok (.iload_n 1, 1) := by decide +kernel
theorem dX4_init_2 : decode cX4_init 2 = .ok (.iload_n 2, 1) := by decide +kernel
theorem dX4_init_3 : decode cX4_init 3 = .ok (.iload_n 3, 1) := by decide +kernel
theorem dX4_init_4 : decode cX4_init 4 = .ok (.invokespecial 1, 3) := by decide +kernel
theorem dX4_init_7 : decode cX4_init 7 = .ok (.return_, 1) := by decide +kernel
theorem dX4_changeAntenna_0 : decode cX4_changeAntenna 0 = .ok (.aload_n 0, 1) := by decide +kernel
theorem dX4_changeAntenna_1 : decode cX4_changeAntenna 1 = .ok (.getfield 7, 3) := by decide +kernel
theorem dX4_changeAntenna_4 : decode cX4_changeAntenna 4 = .ok (.istore_n 3, 1) := by decide +kernel
theorem dX4_changeAntenna_5 : decode cX4_changeAntenna 5 = .ok (.aload_n 0, 1) := by decide +kernel
theorem dX4_changeAntenna_6 : decode cX4_changeAntenna 6 = .ok (.iload_n 1, 1) := by decide +kernel
theorem dX4_changeAntenna_7 : decode cX4_changeAntenna 7 = .ok (.putfield 13, 3) := by decide +kernel
theorem dX4_changeAntenna_10 : decode cX4_changeAntenna 10 = .ok (.aload_n 0, 1) := by decide +kernel
theorem dX4_changeAntenna_11 : decode cX4_changeAntenna 11 = .ok (.iload_n 2, 1) := by decide +kernel
theorem dX4_changeAntenna_12 : decode cX4_changeAntenna 12 = .ok (.putfield 7, 3) := by decide +kernel
theorem dX4_changeAntenna_15 : decode cX4_changeAntenna 15 = .ok (.iload_n 3, 1) := by decide +kernel
theorem dX4_changeAntenna_16 : decode cX4_changeAntenna 16 = .ok (.ireturn, 1) := by decide +kernel
set_option maxRecDepth 20000 in
theorem ggX4_clearedValue_X3_clearedValue : GoodIn wsX4_clearedValue wsX3_clearedValue := goodIn_r _ [8, 9, 10, 11, 12, 39, 40, 41, 42, 43, 44, 45, 46, 47, 48, 49, 50, 51, 52, 53, 54, 55, 56, 57, 58, 59, 60, 13, 14, 15, 16, 17, 18, 19, 20, 21, 22, 23, 24, 25, 26, 27, 28, 29, 30, 31, 32, 33, 34, 35, 36, 37, 38] (by decide +kernel) (by decide +kernel)
set_option maxRecDepth 20000 in
theorem gX4_clearedValue_X3_clearedValue_s16 : GoodIn wsX4_clearedValue (va_wsSU RX4 16 yX3_clearedValue wsX3_clearedValue) := goodIn_app (goodIn_of _ (by decide +kernel)) ggX4_clearedValue_X3_clearedValue
theorem dX4_clearedValue_0 : decode cX4_clearedValue 0 = .ok (.aload_n 0, 1) := by decide +kernel
theorem dX4_clearedValue_1 : decode cX4_clearedValue 1 = .ok (.iload_n 1, 1) := by decide +kernel
theorem dX4_clearedValue_2 : decode cX4_clearedValue 2 = .ok (.iload_n 2, 1) := by decide +kernel
theorem dX4_clearedValue_3 : decode cX4_clearedValue 3 = .ok (.invokespecial 16, 3) := by decide +kernel
theorem dX4_clearedValue_6 : decode cX4_clearedValue 6 = .ok (.lstore_n 3, 1) := by decide +kernel
theorem dX4_clearedValue_7 : decode cX4_clearedValue 7 = .ok (.iload_n 1, 1) := by decide +kernel
theorem dX4_clearedValue_8 : decode cX4_clearedValue 8 = .ok (.aload_n 0, 1) := by decide +kernel
theorem dX4_clearedValue_9 : decode cX4_clearedValue 9 = .ok (.getfield 13, 3) := by decide +kernel
theorem dX4_clearedValue_12 : decode cX4_clearedValue 12 = .ok (.if_icmp .lt 13, 3) := by decide +kernel
theorem dX4_clearedValue_15 : decode cX4_clearedValue 15 = .ok (.lload_n 3, 1) := by decide +kernel
theorem dX4_clearedValue_16 : decode cX4_clearedValue 16 = .ok (.aload_n 0, 1) := by decide +kernel
theorem dX4_clearedValue_17 : decode cX4_clearedValue 17 = .ok (.getfield 7, 3) := by decide +kernel
theorem dX4_clearedValue_20 : decode cX4_clearedValue 20 = .ok (.i2l, 1) := by decide +kernel
theorem dX4_clearedValue_21 : decode cX4_clearedValue 21 = .ok (.lsub, 1) := by decide +kernel
theorem dX4_clearedValue_22 : decode cX4_clearedValue 22 = .ok (.goto 4, 3) := by decide +kernel
theorem dX4_clearedValue_25 : decode cX4_clearedValue 25 = .ok (.lload_n 3, 1) := by decide +kernel
theorem dX4_clearedValue_26 : decode cX4_clearedValue 26 = .ok (.lreturn, 1) := by decide +kernel
set_option maxRecDepth 20000 in
theorem ggX4_heft_X3_heft : GoodIn wsX4_heft wsX3_heft := goodIn_r _ [7, 8, 35, 36, 37, 38, 39, 40, 41, 42, 43, 44, 45, 46, 47, 48, 49, 50, 51, 52, 53, 54, 55, 56, 9, 10, 11, 12, 13, 14, 15, 16, 17, 18, 19, 20, 21, 22, 23, 24, 25, 26, 27, 28, 29, 30, 31, 32, 33, 34] (by decide +kernel) (by decide +kernel)
set_option maxRecDepth 20000 in
theorem gX4_heft_X3_heft_s20 : GoodIn wsX4_heft (va_wsSU RX4 20 yX3_heft wsX3_heft) := goodIn_app (goodIn_of _ (by decide +kernel)) ggX4_heft_X3_heft
theorem dX4_heft_0 : decode cX4_heft 0 = .ok (.aload_n 0, 1) := by decide +kernel
theorem dX4_heft_1 : decode cX4_heft 1 = .ok (.invokespecial 20, 3) := by decide +kernel
theorem dX4_heft_4 : decode cX4_heft 4 = .ok (.aload_n 0, 1) := by decide +kernel
theorem dX4_heft_5 : decode cX4_heft 5 = .ok (.getfield 7, 3) := by decide +kernel
theorem dX4_heft_8 : decode cX4_heft 8 = .ok (.iadd, 1) := by decide +kernel
theorem dX4_heft_9 : decode cX4_heft 9 = .ok (.bipush 100, 2) := by decide +kernel
theorem dX4_heft_11 : decode cX4_heft 11 = .ok (.iadd, 1) := by decide +kernel
theorem dX4_heft_12 : decode cX4_heft 12 = .ok (.ireturn, 1) := by decide +kernel
theorem dX4_fail_0 : decode cX4_fail 0 = .ok (.new 24, 3) := by decide +kernel
theorem dX4_fail_3 : decode cX4_fail 3 = .ok (.dup, 1) := by decide +kernel
theorem dX4_fail_4 : decode cX4_fail 4 = .ok (.ldc 26, 2) := by decide +kernel
theorem dX4_fail_6 : decode cX4_fail 6 = .ok (.invokespecial 28, 3) := by decide +kernel
theorem dX4_fail_9 : decode cX4_fail 9 = .ok (.athrow, 1) := by decide +kernel
theorem dX5_init_0 : decode cX5_init 0 = .ok (.aload_n 0, 1) := by decide +kernel
theorem dX5_init_1 : decode cX5_init 1 = .ok (.invokespecial 3, 3) := by decide +kernel
theorem dX5_init_4 : decode cX5_init 4 = .ok (.aload_n 0, 1) := by decide +kernel
theorem dX5_init_5 : decode cX5_init 5 = .ok (.bipush 40, 2) := by decide +kernel
theorem dX5_init_7 : decode cX5_init 7 = .ok (.newarray .int, 2) := by decide +kernel
theorem dX5_init_9 : decode cX5_init 9 = .ok (.putfield 9, 3) := by decide +kernel
theorem dX5_init_12 : decode cX5_init 12 = .ok (.aload_n 0, 1) := by decide +kernel
theorem dX5_init_13 : decode cX5_init 13 = .ok (.bipush 40, 2) := by decide +kernel
theorem dX5_init_15 : decode cX5_init 15 = .ok (.newarray .long, 2) := by decide +kernel
theorem dX5_init_17 : decode cX5_init 17 = .ok (.putfield 15, 3) := by decide +kernel
theorem dX5_init_20 : decode cX5_init 20 = .ok (.return_, 1) := by decide +kernel
set_option maxRecDepth 20000 in
theorem ggX5_gather_X3_clearFrom : GoodIn wsX5_gather wsX3_clearFrom := goodIn_r _ [9] (by decide +kernel) (by decide +kernel)
set_option maxRecDepth 20000 in
theorem gX5_gather_X3_clearFrom_u23X1 : GoodIn wsX5_gather (va_wsU RX5 23 RX1 "CreepBoard$Mark" ⟨"CreepBoard$Mark", "clearFrom", "()I"⟩ yX3_clearFrom wsX3_clearFrom) := goodIn_app (goodIn_of _ (by decide +kernel)) ggX5_gather_X3_clearFrom
set_option maxRecDepth 20000 in
theorem gX5_gather_X3_clearFrom : GoodIn wsX5_gather (wsV RX5 23 RX3 yX3_clearFrom wsX3_clearFrom) := goodIn_app (goodIn_of _ (by decide +kernel)) ggX5_gather_X3_clearFrom
set_option maxRecDepth 20000 in
theorem gX5_gather_X3_clearFrom_u23X4 : GoodIn wsX5_gather (va_wsU RX5 23 RX4 "CreepBoard$Mark" ⟨"CreepBoard$Mark", "clearFrom", "()I"⟩ yX3_clearFrom wsX3_clearFrom) := goodIn_app (goodIn_of _ (by decide +kernel)) ggX5_gather_X3_clearFrom
set_option maxRecDepth 20000 in
theorem ggX5_gather_X8_clearFrom : GoodIn wsX5_gather wsX8_clearFrom := goodIn_r _ [17, 18, 19, 20, 21, 8, 22, 23, 72, 73, 74, 75, 76, 77, 78, 79, 80, 81, 82, 83, 84, 85, 86, 87, 88, 89, 90, 91, 92, 93, 94, 95, 96, 97, 98, 99, 100, 101, 102, 103, 104, 105, 106, 107, 108, 109, 110, 111, 112, 113, 114, 115, 116, 117, 118, 119] (by decide +kernel) (by decide +kernel)
set_option maxRecDepth 20000 in
theorem gX5_gather_X8_clearFrom_u23X8 : GoodIn wsX5_gather (va_wsO RX5 23 RX8 "CreepBoard$Mark" ⟨"CreepBoard$Mark", "clearFrom", "()I"⟩ yX8_clearFrom wsX8_clearFrom) := goodIn_app (goodIn_of _ (by decide +kernel)) ggX5_gather_X8_clearFrom
set_option maxRecDepth 20000 in
theorem ggX5_gather_X3_hasReading : GoodIn wsX5_gather wsX3_hasReading := goodIn_r _ [22, 23, 72, 73, 74, 75, 76, 77, 78, 79, 80, 81, 82, 83, 84, 85, 86, 87, 88, 89, 90, 91, 92, 93, 94, 95, 96, 97, 98, 99, 100, 101, 102, 103, 104, 105, 106, 107, 108, 109, 110, 111, 112, 113, 114, 115, 116, 117, 118, 119] (by decide +kernel) (by decide +kernel)
set_option maxRecDepth 20000 in
theorem gX5_gather_X3_hasReading_u29X1 : GoodIn wsX5_gather (va_wsU RX5 29 RX1 "CreepBoard$Mark" ⟨"CreepBoard$Mark", "hasReading", "(I)Z"⟩ yX3_hasReading wsX3_hasReading) := goodIn_app (goodIn_of _ (by decide +kernel)) ggX5_gather_X3_hasReading
set_option maxRecDepth 20000 in
theorem gX5_gather_X3_hasReading : GoodIn wsX5_gather (wsV RX5 29 RX3 yX3_hasReading wsX3_hasReading) := goodIn_app (goodIn_of _ (by decide +kernel)) ggX5_gather_X3_hasReading
set_option maxRecDepth 20000 in
theorem gX5_gather_X3_hasReading_u29X4 : GoodIn wsX5_gather (va_wsU RX5 29 RX4 "CreepBoard$Mark" ⟨"CreepBoard$Mark", "hasReading", "(I)Z"⟩ yX3_hasReading wsX3_hasReading) := goodIn_app (goodIn_of _ (by decide +kernel)) ggX5_gather_X3_hasReading
set_option maxRecDepth 20000 in
theorem gX5_gather_X3_hasReading_u29X8 : GoodIn wsX5_gather (va_wsU RX5 29 RX8 "CreepBoard$Mark" ⟨"CreepBoard$Mark", "hasReading", "(I)Z"⟩ yX3_hasReading wsX3_hasReading) := goodIn_app (goodIn_of _ (by decide +kernel)) ggX5_gather_X3_hasReading
set_option maxRecDepth 20000 in
theorem ggX5_gather_X1_clearedValue : GoodIn wsX5_gather wsX1_clearedValue := goodIn_r _ [37, 38, 32, 39, 40, 8, 41, 42, 43, 44, 45, 46, 47, 48, 36, 49, 50, 51, 52, 21, 22, 23, 53, 54, 55, 56, 57, 72, 73, 74, 75, 76, 77, 78, 79, 80, 81, 82, 83, 84, 85, 86, 87, 88, 89, 90, 91, 92, 93, 94, 95, 96, 97, 98, 99, 100, 101, 102, 103, 104, 105, 106, 107, 108, 109, 110, 111, 112, 113, 114, 115, 116, 117, 118, 119] (by decide +kernel) (by decide +kernel)
set_option maxRecDepth 20000 in
theorem gX5_gather_X1_clearedValue_u33X1 : GoodIn wsX5_gather (va_wsO RX5 33 RX1 "CreepBoard$Mark" ⟨"CreepBoard$Mark", "clearedValue", "(II)J"⟩ yX1_clearedValue wsX1_clearedValue) := goodIn_app (goodIn_of _ (by decide +kernel)) ggX5_gather_X1_clearedValue
set_option maxRecDepth 20000 in
theorem ggX5_gather_X3_clearedValue : GoodIn wsX5_gather wsX3_clearedValue := goodIn_r _ [41, 42, 43, 44, 45, 72, 73, 74, 75, 76, 77, 78, 79, 80, 81, 82, 83, 84, 85, 86, 87, 88, 89, 90, 91, 92, 93, 94, 95, 96, 97, 98, 99, 100, 101, 102, 103, 104, 105, 106, 107, 108, 109, 110, 111, 112, 113, 114, 115, 116, 117, 118, 119] (by decide +kernel) (by decide +kernel)
set_option maxRecDepth 20000 in
theorem gX5_gather_X3_clearedValue : GoodIn wsX5_gather (wsV RX5 33 RX3 yX3_clearedValue wsX3_clearedValue) := goodIn_app (goodIn_of _ (by decide +kernel)) ggX5_gather_X3_clearedValue
set_option maxRecDepth 20000 in
theorem ggX5_gather_X4_clearedValue : GoodIn wsX5_gather wsX4_clearedValue := goodIn_r _ [63, 64, 65, 66, 32, 67, 40, 8, 41, 42, 43, 44, 45, 94, 95, 96, 97, 98, 99, 100, 101, 102, 103, 104, 105, 106, 107, 108, 109, 110, 111, 112, 113, 114, 115, 116, 117, 118, 119, 72, 73, 74, 75, 76, 77, 78, 79, 80, 81, 82, 83, 84, 85, 86, 87, 88, 89, 90, 91, 92, 93] (by decide +kernel) (by decide +kernel)
set_option maxRecDepth 20000 in
theorem gX5_gather_X4_clearedValue_u33X4 : GoodIn wsX5_gather (va_wsO RX5 33 RX4 "CreepBoard$Mark" ⟨"CreepBoard$Mark", "clearedValue", "(II)J"⟩ yX4_clearedValue wsX4_clearedValue) := goodIn_app (goodIn_of _ (by decide +kernel)) ggX5_gather_X4_clearedValue
set_option maxRecDepth 20000 in
theorem gX5_gather_X4_clearedValue_u33X8 : GoodIn wsX5_gather (va_wsO RX5 33 RX8 "CreepBoard$Mark" ⟨"CreepBoard$Mark", "clearedValue", "(II)J"⟩ yX4_clearedValue wsX4_clearedValue) := goodIn_app (goodIn_of _ (by decide +kernel)) ggX5_gather_X4_clearedValue
theorem dX5_gather_0 : decode cX5_gather 0 = .ok (.aload_n 0, 1) := by decide +kernel
theorem dX5_gather_1 : decode cX5_gather 1 = .ok (.iconst 0, 1) := by decide +kernel
theorem dX5_gather_2 : decode cX5_gather 2 = .ok (.putfield 19, 3) := by decide +kernel
theorem dX5_gather_5 : decode cX5_gather 5 = .ok (.aload_n 1, 1) := by decide +kernel
theorem dX5_gather_6 : decode cX5_gather 6 = .ok (.invokevirtual 23, 3) := by decide +kernel
theorem dX5_gather_9 : decode cX5_gather 9 = .ok (.istore_n 3, 1) := by decide +kernel
theorem dX5_gather_10 : decode cX5_gather 10 = .ok (.iload_n 3, 1) := by decide +kernel
theorem dX5_gather_11 : decode cX5_gather 11 = .ok (.bipush 40, 2) := by decide +kernel
theorem dX5_gather_13 : decode cX5_gather 13 = .ok (.if_icmp .ge 52, 3) := by decide +kernel
theorem dX5_gather_16 : decode cX5_gather 16 = .ok (.aload_n 1, 1) := by decide +kernel
theorem dX5_gather_17 : decode cX5_gather 17 = .ok (.iload_n 3, 1) := by decide +kernel
theorem dX5_gather_18 : decode cX5_gather 18 = .ok (.invokevirtual 29, 3) := by decide +kernel
theorem dX5_gather_21 : decode cX5_gather 21 = .ok (.ifCond .eq 38, 3) := by decide +kernel
theorem dX5_gather_24 : decode cX5_gather 24 = .ok (.aload_n 0, 1) := by decide +kernel
theorem dX5_gather_25 : decode cX5_gather 25 = .ok (.getfield 9, 3) := by decide +kernel
theorem dX5_gather_28 : decode cX5_gather 28 = .ok (.aload_n 0, 1) := by decide +kernel
theorem dX5_gather_29 : decode cX5_gather 29 = .ok (.getfield 19, 3) := by decide +kernel
theorem dX5_gather_32 : decode cX5_gather 32 = .ok (.iload_n 3, 1) := by decide +kernel
theorem dX5_gather_33 : decode cX5_gather 33 = .ok (.iastore, 1) := by decide +kernel
theorem dX5_gather_34 : decode cX5_gather 34 = .ok (.aload_n 0, 1) := by decide +kernel
theorem dX5_gather_35 : decode cX5_gather 35 = .ok (.getfield 15, 3) := by decide +kernel
theorem dX5_gather_38 : decode cX5_gather 38 = .ok (.aload_n 0, 1) := by decide +kernel
theorem dX5_gather_39 : decode cX5_gather 39 = .ok (.getfield 19, 3) := by decide +kernel
theorem dX5_gather_42 : decode cX5_gather 42 = .ok (.aload_n 1, 1) := by decide +kernel
theorem dX5_gather_43 : decode cX5_gather 43 = .ok (.iload_n 3, 1) := by decide +kernel
theorem dX5_gather_44 : decode cX5_gather 44 = .ok (.iload_n 2, 1) := by decide +kernel
theorem dX5_gather_45 : decode cX5_gather 45 = .ok (.invokevirtual 33, 3) := by decide +kernel
theorem dX5_gather_48 : decode cX5_gather 48 = .ok (.lastore, 1) := by decide +kernel
theorem dX5_gather_49 : decode cX5_gather 49 = .ok (.aload_n 0, 1) := by decide +kernel
theorem dX5_gather_50 : decode cX5_gather 50 = .ok (.dup, 1) := by decide +kernel
theorem dX5_gather_51 : decode cX5_gather 51 = .ok (.getfield 19, 3) := by decide +kernel
theorem dX5_gather_54 : decode cX5_gather 54 = .ok (.iconst 1, 1) := by decide +kernel
theorem dX5_gather_55 : decode cX5_gather 55 = .ok (.iadd, 1) := by decide +kernel
theorem dX5_gather_56 : decode cX5_gather 56 = .ok (.putfield 19, 3) := by decide +kernel
theorem dX5_gather_59 : decode cX5_gather 59 = .ok (.iinc 3 1, 3) := by decide +kernel
theorem dX5_gather_62 : decode cX5_gather 62 = .ok (.goto (-52), 3) := by decide +kernel
theorem dX5_gather_65 : decode cX5_gather 65 = .ok (.return_, 1) := by decide +kernel
theorem dX5_size_0 : decode cX5_size 0 = .ok (.aload_n 0, 1) := by decide +kernel
theorem dX5_size_1 : decode cX5_size 1 = .ok (.getfield 19, 3) := by decide +kernel
theorem dX5_size_4 : decode cX5_size 4 = .ok (.ireturn, 1) := by decide +kernel
theorem dX5_epochAt_0 : decode cX5_epochAt 0 = .ok (.aload_n 0, 1) := by decide +kernel
theorem dX5_epochAt_1 : decode cX5_epochAt 1 = .ok (.getfield 9, 3) := by decide +kernel
theorem dX5_epochAt_4 : decode cX5_epochAt 4 = .ok (.iload_n 1, 1) := by decide +kernel
theorem dX5_epochAt_5 : decode cX5_epochAt 5 = .ok (.iaload, 1) := by decide +kernel
theorem dX5_epochAt_6 : decode cX5_epochAt 6 = .ok (.ireturn, 1) := by decide +kernel
theorem dX5_valueAt_0 : decode cX5_valueAt 0 = .ok (.aload_n 0, 1) := by decide +kernel
theorem dX5_valueAt_1 : decode cX5_valueAt 1 = .ok (.getfield 15, 3) := by decide +kernel
theorem dX5_valueAt_4 : decode cX5_valueAt 4 = .ok (.iload_n 1, 1) := by decide +kernel
theorem dX5_valueAt_5 : decode cX5_valueAt 5 = .ok (.laload, 1) := by decide +kernel
theorem dX5_valueAt_6 : decode cX5_valueAt 6 = .ok (.lreturn, 1) := by decide +kernel
theorem dX5_rateAbove_0 : decode cX5_rateAbove 0 = .ok (.lconst 0, 1) := by decide +kernel
theorem dX5_rateAbove_1 : decode cX5_rateAbove 1 = .ok (.lstore_n 1, 1) := by decide +kernel
theorem dX5_rateAbove_2 : decode cX5_rateAbove 2 = .ok (.lconst 0, 1) := by decide +kernel
theorem dX5_rateAbove_3 : decode cX5_rateAbove 3 = .ok (.lstore_n 3, 1) := by decide +kernel
theorem dX5_rateAbove_4 : decode cX5_rateAbove 4 = .ok (.lconst 0, 1) := by decide +kernel
theorem dX5_rateAbove_5 : decode cX5_rateAbove 5 = .ok (.lstore 5, 2) := by decide +kernel
theorem dX5_rateAbove_7 : decode cX5_rateAbove 7 = .ok (.iconst 0, 1) := by decide +kernel
theorem dX5_rateAbove_8 : decode cX5_rateAbove 8 = .ok (.istore 7, 2) := by decide +kernel
theorem dX5_rateAbove_10 : decode cX5_rateAbove 10 = .ok (.iload 7, 2) := by decide +kernel
theorem dX5_rateAbove_12 : decode cX5_rateAbove 12 = .ok (.aload_n 0, 1) := by decide +kernel
theorem dX5_rateAbove_13 : decode cX5_rateAbove 13 = .ok (.getfield 19, 3) := by decide +kernel
theorem dX5_rateAbove_16 : decode cX5_rateAbove 16 = .ok (.if_icmp .ge 51, 3) := by decide +kernel
theorem dX5_rateAbove_19 : decode cX5_rateAbove 19 = .ok (.lload_n 1, 1) := by decide +kernel
theorem dX5_rateAbove_20 : decode cX5_rateAbove 20 = .ok (.aload_n 0, 1) := by decide +kernel
theorem dX5_rateAbove_21 : decode cX5_rateAbove 21 = .ok (.getfield 9, 3) := by decide +kernel
theorem dX5_rateAbove_24 : decode cX5_rateAbove 24 = .ok (.iload 7, 2) := by decide +kernel
theorem dX5_rateAbove_26 : decode cX5_rateAbove 26 = .ok (.iaload, 1) := by decide +kernel
theorem dX5_rateAbove_27 : decode cX5_rateAbove 27 = .ok (.i2l, 1) := by decide +kernel
theorem dX5_rateAbove_28 : decode cX5_rateAbove 28 = .ok (.ladd, 1) := by decide +kernel
theorem dX5_rateAbove_29 : decode cX5_rateAbove 29 = .ok (.lstore_n 1, 1) := by decide +kernel
theorem dX5_rateAbove_30 : decode cX5_rateAbove 30 = .ok (.lload_n 3, 1) := by decide +kernel
theorem dX5_rateAbove_31 : decode cX5_rateAbove 31 = .ok (.aload_n 0, 1) := by decide +kernel
theorem dX5_rateAbove_32 : decode cX5_rateAbove 32 = .ok (.getfield 15, 3) := by decide +kernel
theorem dX5_rateAbove_35 : decode cX5_rateAbove 35 = .ok (.iload 7, 2) := by decide +kernel
theorem dX5_rateAbove_37 : decode cX5_rateAbove 37 = .ok (.laload, 1) := by decide +kernel
theorem dX5_rateAbove_38 : decode cX5_rateAbove 38 = .ok (.ladd, 1) := by decide +kernel
theorem dX5_rateAbove_39 : decode cX5_rateAbove 39 = .ok (.lstore_n 3, 1) := by decide +kernel
theorem dX5_rateAbove_40 : decode cX5_rateAbove 40 = .ok (.lload 5, 2) := by decide +kernel
theorem dX5_rateAbove_42 : decode cX5_rateAbove 42 = .ok (.aload_n 0, 1) := by decide +kernel
theorem dX5_rateAbove_43 : decode cX5_rateAbove 43 = .ok (.getfield 9, 3) := by decide +kernel
theorem dX5_rateAbove_46 : decode cX5_rateAbove 46 = .ok (.iload 7, 2) := by decide +kernel
theorem dX5_rateAbove_48 : decode cX5_rateAbove 48 = .ok (.iaload, 1) := by decide +kernel
theorem dX5_rateAbove_49 : decode cX5_rateAbove 49 = .ok (.i2l, 1) := by decide +kernel
theorem dX5_rateAbove_50 : decode cX5_rateAbove 50 = .ok (.aload_n 0, 1) := by decide +kernel
theorem dX5_rateAbove_51 : decode cX5_rateAbove 51 = .ok (.getfield 15, 3) := by decide +kernel
theorem dX5_rateAbove_54 : decode cX5_rateAbove 54 = .ok (.iload 7, 2) := by decide +kernel
theorem dX5_rateAbove_56 : decode cX5_rateAbove 56 = .ok (.laload, 1) := by decide +kernel
theorem dX5_rateAbove_57 : decode cX5_rateAbove 57 = .ok (.lmul, 1) := by decide +kernel
theorem dX5_rateAbove_58 : decode cX5_rateAbove 58 = .ok (.ladd, 1) := by decide +kernel
theorem dX5_rateAbove_59 : decode cX5_rateAbove 59 = .ok (.lstore 5, 2) := by decide +kernel
theorem dX5_rateAbove_61 : decode cX5_rateAbove 61 = .ok (.iinc 7 1, 3) := by decide +kernel
theorem dX5_rateAbove_64 : decode cX5_rateAbove 64 = .ok (.goto (-54), 3) := by decide +kernel
theorem dX5_rateAbove_67 : decode cX5_rateAbove 67 = .ok (.aload_n 0, 1) := by decide +kernel
theorem dX5_rateAbove_68 : decode cX5_rateAbove 68 = .ok (.getfield 19, 3) := by decide +kernel
theorem dX5_rateAbove_71 : decode cX5_rateAbove 71 = .ok (.i2l, 1) := by decide +kernel
theorem dX5_rateAbove_72 : decode cX5_rateAbove 72 = .ok (.lload 5, 2) := by decide +kernel
theorem dX5_rateAbove_74 : decode cX5_rateAbove 74 = .ok (.lmul, 1) := by decide +kernel
theorem dX5_rateAbove_75 : decode cX5_rateAbove 75 = .ok (.lload_n 1, 1) := by decide +kernel
theorem dX5_rateAbove_76 : decode cX5_rateAbove 76 = .ok (.lload_n 3, 1) := by decide +kernel
theorem dX5_rateAbove_77 : decode cX5_rateAbove 77 = .ok (.lmul, 1) := by decide +kernel
theorem dX5_rateAbove_78 : decode cX5_rateAbove 78 = .ok (.lsub, 1) := by decide +kernel
theorem dX5_rateAbove_79 : decode cX5_rateAbove 79 = .ok (.lreturn, 1) := by decide +kernel
theorem dX5_rateBelow_0 : decode cX5_rateBelow 0 = .ok (.lconst 0, 1) := by decide +kernel
theorem dX5_rateBelow_1 : decode cX5_rateBelow 1 = .ok (.lstore_n 1, 1) := by decide +kernel
theorem dX5_rateBelow_2 : decode cX5_rateBelow 2 = .ok (.lconst 0, 1) := by decide +kernel
theorem dX5_rateBelow_3 : decode cX5_rateBelow 3 = .ok (.lstore_n 3, 1) := by decide +kernel
theorem dX5_rateBelow_4 : decode cX5_rateBelow 4 = .ok (.iconst 0, 1) := by decide +kernel
theorem dX5_rateBelow_5 : decode cX5_rateBelow 5 = .ok (.istore 5, 2) := by decide +kernel
theorem dX5_rateBelow_7 : decode cX5_rateBelow 7 = .ok (.iload 5, 2) := by decide +kernel
theorem dX5_rateBelow_9 : decode cX5_rateBelow 9 = .ok (.aload_n 0, 1) := by decide +kernel
theorem dX5_rateBelow_10 : decode cX5_rateBelow 10 = .ok (.getfield 19, 3) := by decide +kernel
theorem dX5_rateBelow_13 : decode cX5_rateBelow 13 = .ok (.if_icmp .ge 40, 3) := by decide +kernel
theorem dX5_rateBelow_16 : decode cX5_rateBelow 16 = .ok (.lload_n 1, 1) := by decide +kernel
theorem dX5_rateBelow_17 : decode cX5_rateBelow 17 = .ok (.aload_n 0, 1) := by decide +kernel
theorem dX5_rateBelow_18 : decode cX5_rateBelow 18 = .ok (.getfield 9, 3) := by decide +kernel
theorem dX5_rateBelow_21 : decode cX5_rateBelow 21 = .ok (.iload 5, 2) := by decide +kernel
theorem dX5_rateBelow_23 : decode cX5_rateBelow 23 = .ok (.iaload, 1) := by decide +kernel
theorem dX5_rateBelow_24 : decode cX5_rateBelow 24 = .ok (.i2l, 1) := by decide +kernel
theorem dX5_rateBelow_25 : decode cX5_rateBelow 25 = .ok (.ladd, 1) := by decide +kernel
theorem dX5_rateBelow_26 : decode cX5_rateBelow 26 = .ok (.lstore_n 1, 1) := by decide +kernel
theorem dX5_rateBelow_27 : decode cX5_rateBelow 27 = .ok (.lload_n 3, 1) := by decide +kernel
theorem dX5_rateBelow_28 : decode cX5_rateBelow 28 = .ok (.aload_n 0, 1) := by decide +kernel
theorem dX5_rateBelow_29 : decode cX5_rateBelow 29 = .ok (.getfield 9, 3) := by decide +kernel
theorem dX5_rateBelow_32 : decode cX5_rateBelow 32 = .ok (.iload 5, 2) := by decide +kernel
theorem dX5_rateBelow_34 : decode cX5_rateBelow 34 = .ok (.iaload, 1) := by decide +kernel
theorem dX5_rateBelow_35 : decode cX5_rateBelow 35 = .ok (.i2l, 1) := by decide +kernel
theorem dX5_rateBelow_36 : decode cX5_rateBelow 36 = .ok (.aload_n 0, 1) := by decide +kernel
theorem dX5_rateBelow_37 : decode cX5_rateBelow 37 = .ok (.getfield 9, 3) := by decide +kernel
theorem dX5_rateBelow_40 : decode cX5_rateBelow 40 = .ok (.iload 5, 2) := by decide +kernel
theorem dX5_rateBelow_42 : decode cX5_rateBelow 42 = .ok (.iaload, 1) := by decide +kernel
theorem dX5_rateBelow_43 : decode cX5_rateBelow 43 = .ok (.i2l, 1) := by decide +kernel
theorem dX5_rateBelow_44 : decode cX5_rateBelow 44 = .ok (.lmul, 1) := by decide +kernel
theorem dX5_rateBelow_45 : decode cX5_rateBelow 45 = .ok (.ladd, 1) := by decide +kernel
theorem dX5_rateBelow_46 : decode cX5_rateBelow 46 = .ok (.lstore_n 3, 1) := by decide +kernel
theorem dX5_rateBelow_47 : decode cX5_rateBelow 47 = .ok (.iinc 5 1, 3) := by decide +kernel
theorem dX5_rateBelow_50 : decode cX5_rateBelow 50 = .ok (.goto (-43), 3) := by decide +kernel
theorem dX5_rateBelow_53 : decode cX5_rateBelow 53 = .ok (.aload_n 0, 1) := by decide +kernel
theorem dX5_rateBelow_54 : decode cX5_rateBelow 54 = .ok (.getfield 19, 3) := by decide +kernel
theorem dX5_rateBelow_57 : decode cX5_rateBelow 57 = .ok (.i2l, 1) := by decide +kernel
theorem dX5_rateBelow_58 : decode cX5_rateBelow 58 = .ok (.lload_n 3, 1) := by decide +kernel
theorem dX5_rateBelow_59 : decode cX5_rateBelow 59 = .ok (.lmul, 1) := by decide +kernel
theorem dX5_rateBelow_60 : decode cX5_rateBelow 60 = .ok (.lload_n 1, 1) := by decide +kernel
theorem dX5_rateBelow_61 : decode cX5_rateBelow 61 = .ok (.lload_n 1, 1) := by decide +kernel
theorem dX5_rateBelow_62 : decode cX5_rateBelow 62 = .ok (.lmul, 1) := by decide +kernel
theorem dX5_rateBelow_63 : decode cX5_rateBelow 63 = .ok (.lsub, 1) := by decide +kernel
theorem dX5_rateBelow_64 : decode cX5_rateBelow 64 = .ok (.lreturn, 1) := by decide +kernel
theorem dX5_jumpEpoch_0 : decode cX5_jumpEpoch 0 = .ok (.lconst 0, 1) := by decide +kernel
theorem dX5_jumpEpoch_1 : decode cX5_jumpEpoch 1 = .ok (.lstore_n 1, 1) := by decide +kernel
theorem dX5_jumpEpoch_2 : decode cX5_jumpEpoch 2 = .ok (.iconst 0, 1) := by decide +kernel
theorem dX5_jumpEpoch_3 : decode cX5_jumpEpoch 3 = .ok (.istore_n 3, 1) := by decide +kernel
theorem dX5_jumpEpoch_4 : decode cX5_jumpEpoch 4 = .ok (.iload_n 3, 1) := by decide +kernel
theorem dX5_jumpEpoch_5 : decode cX5_jumpEpoch 5 = .ok (.aload_n 0, 1) := by decide +kernel
theorem dX5_jumpEpoch_6 : decode cX5_jumpEpoch 6 = .ok (.getfield 19, 3) := by decide +kernel
theorem dX5_jumpEpoch_9 : decode cX5_jumpEpoch 9 = .ok (.if_icmp .ge 18, 3) := by decide +kernel
theorem dX5_jumpEpoch_12 : decode cX5_jumpEpoch 12 = .ok (.lload_n 1, 1) := by decide +kernel
theorem dX5_jumpEpoch_13 : decode cX5_jumpEpoch 13 = .ok (.aload_n 0, 1) := by decide +kernel
theorem dX5_jumpEpoch_14 : decode cX5_jumpEpoch 14 = .ok (.getfield 15, 3) := by decide +kernel
theorem dX5_jumpEpoch_17 : decode cX5_jumpEpoch 17 = .ok (.iload_n 3, 1) := by decide +kernel
theorem dX5_jumpEpoch_18 : decode cX5_jumpEpoch 18 = .ok (.laload, 1) := by decide +kernel
theorem dX5_jumpEpoch_19 : decode cX5_jumpEpoch 19 = .ok (.ladd, 1) := by decide +kernel
theorem dX5_jumpEpoch_20 : decode cX5_jumpEpoch 20 = .ok (.lstore_n 1, 1) := by decide +kernel
